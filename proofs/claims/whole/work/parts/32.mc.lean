def m_X8_sizeOf (X : GS) (loan : Int32) : Option (Int32) := (if inR (97 + loan) 129 then (if inR ((X.2.2.1 5) ((97 + loan).toNatClampNeg)) 129 then (some ((X.2.2.1 5) (((X.2.2.1 5) ((97 + loan).toNatClampNeg)).toNatClampNeg))) else none) else none)
set_option maxRecDepth 20000 in
set_option maxHeartbeats 1000000 in
theorem s_X8_sizeOf (X : GS) (loan : Int32) {vo : Int32} (h : m_X8_sizeOf X loan = some vo) : Ct 1 0 0 yX8_sizeOf (.code yX8_sizeOf cX8_sizeOf 2 (some (.int))) [.ref 131, .int loan] (mkH X) (.inl (some (.int vo))) (mkH X) := by
  refine Ct.of (LL := [some (.ref 131), some (.int loan)]) mkX8_sizeOf.1 owX8_sizeOf rfl (Nat.le_of_ble_eq_true rfl) rfl (fun Wk C => ?_)
  have K := C.core
  rw [m_X8_sizeOf] at h
  refine K.aload_n (q := 1) dX8_sizeOf_0 rfl rfl ?_
  refine K.getf (q := 4) (v := .ref 132) fo_X8_7.r rx131 (lt141 (by decide)) rfl dX8_sizeOf_1 rfl ?_
  refine K.aload_n (q := 5) dX8_sizeOf_4 rfl rfl ?_
  refine K.getf (q := 8) (v := .ref 132) fo_X8_7.r rx131 (lt141 (by decide)) rfl dX8_sizeOf_5 rfl ?_
  refine K.bipush (q := 10) (v := 97) dX8_sizeOf_8 rfl (by decide) ?_
  refine K.iload_n (q := 11) dX8_sizeOf_10 rfl rfl ?_
  refine K.iadd (q := 12) dX8_sizeOf_11 rfl ?_
  obtain ⟨k_1, h⟩ := chk_inv h
  refine K.ial (q := 13) (f := (X.2.2.1 5)) (m := ((97 + loan).toNatClampNeg)) rx132 (lt141 (by decide)) (cl_nI k_1.1) k_1.2 (by decide) dX8_sizeOf_12 rfl ?_
  obtain ⟨k_2, h⟩ := chk_inv h
  refine K.ial (q := 14) (f := (X.2.2.1 5)) (m := (((X.2.2.1 5) ((97 + loan).toNatClampNeg)).toNatClampNeg)) rx132 (lt141 (by decide)) (cl_nI k_2.1) k_2.2 (by decide) dX8_sizeOf_13 rfl ?_
  obtain e_vo := ret1_inv h
  exact C.iret rfl rfl (congrArg (fun z => Sum.inl (some (Value.int z))) e_vo.symm) rfl (Nat.le_of_ble_eq_true rfl) (Nat.le_of_ble_eq_true rfl) dX8_sizeOf_14

def m_X8_loanOf (X : GS) (loan : Int32) (what : Int32) : Option (Int32 × GS) := (bnd1 (m_X8_isLoan X loan) fun (v1 : Int32) => (if v1 = 0 then (bnd2 (m_X8_fails X 1) fun (v20 : Int32) (X20 : GS) => (some (v20, X20))) else (if what = 0 then (if inR ((65 + (16 * what)) + loan) 129 then (bnd2 (m_X8_done X ((X.2.2.1 5) (((65 + (16 * what)) + loan).toNatClampNeg))) fun (v5 : Int32) (X5 : GS) => (some (v5, X5))) else none) else (if what = 1 then (if inR ((65 + (16 * what)) + loan) 129 then (bnd2 (m_X8_done X ((X.2.2.1 5) (((65 + (16 * what)) + loan).toNatClampNeg))) fun (v8 : Int32) (X8 : GS) => (some (v8, X8))) else none) else (if what = 2 then (if inR ((65 + (16 * what)) + loan) 129 then (bnd2 (m_X8_done X ((X.2.2.1 5) (((65 + (16 * what)) + loan).toNatClampNeg))) fun (v11 : Int32) (X11 : GS) => (some (v11, X11))) else none) else (if what = 3 then (bnd1 (m_X8_sizeOf X loan) fun (v13 : Int32) => (bnd2 (m_X8_done X v13) fun (v14 : Int32) (X14 : GS) => (some (v14, X14)))) else (if what = 4 then (bnd1 (m_X8_sizeOf X loan) fun (v16 : Int32) => (if inR (81 + loan) 129 then (bnd2 (m_X8_done X (v16 - ((X.2.2.1 5) ((81 + loan).toNatClampNeg)))) fun (v18 : Int32) (X18 : GS) => (some (v18, X18))) else none)) else (bnd2 (m_X8_fails X 2) fun (v19 : Int32) (X19 : GS) => (some (v19, X19))))))))))
set_option maxRecDepth 20000 in
set_option maxHeartbeats 1000000 in
theorem s_X8_loanOf (X : GS) (loan : Int32) (what : Int32) {vo : Int32} {Xo : GS} (h : m_X8_loanOf X loan what = some (vo, Xo)) : Ct 3 0 0 yX8_loanOf (.code yX8_loanOf cX8_loanOf 3 (some (.int))) [.ref 131, .int loan, .int what] (mkH X) (.inl (some (.int vo))) (mkH Xo) := by
  refine Ct.of (LL := [some (.ref 131), some (.int loan), some (.int what)]) mkX8_loanOf.1 owX8_loanOf rfl (Nat.le_of_ble_eq_true rfl) rfl (fun Wk C => ?_)
  have K := C.core
  rw [m_X8_loanOf] at h
  refine K.aload_n (q := 1) dX8_loanOf_0 rfl rfl ?_
  refine K.iload_n (q := 2) dX8_loanOf_1 rfl rfl ?_
  obtain ⟨v1, h9_1, h⟩ := bnd1_inv h
  refine K.callV0 (q := 5) mkX8_isLoan mw_X8_127 (s_X8_isLoan _ _ h9_1) rfl (by decide) rfl (lt141 (by decide)) rx131 (Nat.le_of_ble_eq_true rfl) (Nat.le_of_ble_eq_true rfl) (Nat.le_of_ble_eq_true rfl) dX8_loanOf_2 rfl ?_
  refine K.if_ne (q := 8) (tgt := 14) dX8_loanOf_5 rfl (by decide) (fun c_5_2 => ?_) (fun c_5_2 => ?_)
  · rw [if_neg c_5_2] at h
    refine K.iload_n (q := 15) dX8_loanOf_14 rfl rfl ?_
    by_cases c_15_3 : what = 0
    · refine K.tableIn (tgt := 48) dX8_loanOf_15 (by rw [c_15_3]; decide) (by rw [c_15_3]; decide) (by rw [c_15_3]; try rfl) (by decide) ?_
      rw [if_pos c_15_3] at h
      refine K.aload_n (q := 49) dX8_loanOf_48 rfl rfl ?_
      refine K.aload_n (q := 50) dX8_loanOf_49 rfl rfl ?_
      refine K.getf (q := 53) (v := .ref 132) fo_X8_7.r rx131 (lt141 (by decide)) rfl dX8_loanOf_50 rfl ?_
      refine K.bipush (q := 55) (v := 65) dX8_loanOf_53 rfl (by decide) ?_
      refine K.bipush (q := 57) (v := 16) dX8_loanOf_55 rfl (by decide) ?_
      refine K.iload_n (q := 58) dX8_loanOf_57 rfl rfl ?_
      refine K.imul (q := 59) dX8_loanOf_58 rfl ?_
      refine K.iadd (q := 60) dX8_loanOf_59 rfl ?_
      refine K.iload_n (q := 61) dX8_loanOf_60 rfl rfl ?_
      refine K.iadd (q := 62) dX8_loanOf_61 rfl ?_
      obtain ⟨k_4, h⟩ := chk_inv h
      refine K.ial (q := 63) (f := (X.2.2.1 5)) (m := (((65 + (16 * what)) + loan).toNatClampNeg)) rx132 (lt141 (by decide)) (cl_nI k_4.1) k_4.2 (by decide) dX8_loanOf_62 rfl ?_
      obtain ⟨v5, X5, h9_5, h⟩ := bnd2_inv h
      refine K.callV0 (q := 66) mkX8_done mw_X8_105 (s_X8_done _ _ h9_5) rfl (by decide) rfl (lt141 (by decide)) rx131 (Nat.le_of_ble_eq_true rfl) (Nat.le_of_ble_eq_true rfl) (Nat.le_of_ble_eq_true rfl) dX8_loanOf_63 rfl ?_
      obtain ⟨e_vo, e_Xo⟩ := ret2_inv h
      exact C.iret rfl rfl (congrArg (fun z => Sum.inl (some (Value.int z))) e_vo.symm) (congrArg mkH e_Xo) (Nat.le_of_ble_eq_true rfl) (Nat.le_of_ble_eq_true rfl) dX8_loanOf_66
    · skip
      rw [if_neg c_15_3] at h
      by_cases c_15_6 : what = 1
      · refine K.tableIn (tgt := 48) dX8_loanOf_15 (by rw [c_15_6]; decide) (by rw [c_15_6]; decide) (by rw [c_15_6]; try rfl) (by decide) ?_
        rw [if_pos c_15_6] at h
        refine K.aload_n (q := 49) dX8_loanOf_48 rfl rfl ?_
        refine K.aload_n (q := 50) dX8_loanOf_49 rfl rfl ?_
        refine K.getf (q := 53) (v := .ref 132) fo_X8_7.r rx131 (lt141 (by decide)) rfl dX8_loanOf_50 rfl ?_
        refine K.bipush (q := 55) (v := 65) dX8_loanOf_53 rfl (by decide) ?_
        refine K.bipush (q := 57) (v := 16) dX8_loanOf_55 rfl (by decide) ?_
        refine K.iload_n (q := 58) dX8_loanOf_57 rfl rfl ?_
        refine K.imul (q := 59) dX8_loanOf_58 rfl ?_
        refine K.iadd (q := 60) dX8_loanOf_59 rfl ?_
        refine K.iload_n (q := 61) dX8_loanOf_60 rfl rfl ?_
        refine K.iadd (q := 62) dX8_loanOf_61 rfl ?_
        obtain ⟨k_7, h⟩ := chk_inv h
        refine K.ial (q := 63) (f := (X.2.2.1 5)) (m := (((65 + (16 * what)) + loan).toNatClampNeg)) rx132 (lt141 (by decide)) (cl_nI k_7.1) k_7.2 (by decide) dX8_loanOf_62 rfl ?_
        obtain ⟨v8, X8, h9_8, h⟩ := bnd2_inv h
        refine K.callV0 (q := 66) mkX8_done mw_X8_105 (s_X8_done _ _ h9_8) rfl (by decide) rfl (lt141 (by decide)) rx131 (Nat.le_of_ble_eq_true rfl) (Nat.le_of_ble_eq_true rfl) (Nat.le_of_ble_eq_true rfl) dX8_loanOf_63 rfl ?_
        obtain ⟨e_vo, e_Xo⟩ := ret2_inv h
        exact C.iret rfl rfl (congrArg (fun z => Sum.inl (some (Value.int z))) e_vo.symm) (congrArg mkH e_Xo) (Nat.le_of_ble_eq_true rfl) (Nat.le_of_ble_eq_true rfl) dX8_loanOf_66
      · skip
        rw [if_neg c_15_6] at h
        by_cases c_15_9 : what = 2
        · refine K.tableIn (tgt := 48) dX8_loanOf_15 (by rw [c_15_9]; decide) (by rw [c_15_9]; decide) (by rw [c_15_9]; try rfl) (by decide) ?_
          rw [if_pos c_15_9] at h
          refine K.aload_n (q := 49) dX8_loanOf_48 rfl rfl ?_
          refine K.aload_n (q := 50) dX8_loanOf_49 rfl rfl ?_
          refine K.getf (q := 53) (v := .ref 132) fo_X8_7.r rx131 (lt141 (by decide)) rfl dX8_loanOf_50 rfl ?_
          refine K.bipush (q := 55) (v := 65) dX8_loanOf_53 rfl (by decide) ?_
          refine K.bipush (q := 57) (v := 16) dX8_loanOf_55 rfl (by decide) ?_
          refine K.iload_n (q := 58) dX8_loanOf_57 rfl rfl ?_
          refine K.imul (q := 59) dX8_loanOf_58 rfl ?_
          refine K.iadd (q := 60) dX8_loanOf_59 rfl ?_
          refine K.iload_n (q := 61) dX8_loanOf_60 rfl rfl ?_
          refine K.iadd (q := 62) dX8_loanOf_61 rfl ?_
          obtain ⟨k_10, h⟩ := chk_inv h
          refine K.ial (q := 63) (f := (X.2.2.1 5)) (m := (((65 + (16 * what)) + loan).toNatClampNeg)) rx132 (lt141 (by decide)) (cl_nI k_10.1) k_10.2 (by decide) dX8_loanOf_62 rfl ?_
          obtain ⟨v11, X11, h9_11, h⟩ := bnd2_inv h
          refine K.callV0 (q := 66) mkX8_done mw_X8_105 (s_X8_done _ _ h9_11) rfl (by decide) rfl (lt141 (by decide)) rx131 (Nat.le_of_ble_eq_true rfl) (Nat.le_of_ble_eq_true rfl) (Nat.le_of_ble_eq_true rfl) dX8_loanOf_63 rfl ?_
          obtain ⟨e_vo, e_Xo⟩ := ret2_inv h
          exact C.iret rfl rfl (congrArg (fun z => Sum.inl (some (Value.int z))) e_vo.symm) (congrArg mkH e_Xo) (Nat.le_of_ble_eq_true rfl) (Nat.le_of_ble_eq_true rfl) dX8_loanOf_66
        · skip
          rw [if_neg c_15_9] at h
          by_cases c_15_12 : what = 3
          · refine K.tableIn (tgt := 67) dX8_loanOf_15 (by rw [c_15_12]; decide) (by rw [c_15_12]; decide) (by rw [c_15_12]; try rfl) (by decide) ?_
            rw [if_pos c_15_12] at h
            refine K.aload_n (q := 68) dX8_loanOf_67 rfl rfl ?_
            refine K.aload_n (q := 69) dX8_loanOf_68 rfl rfl ?_
            refine K.iload_n (q := 70) dX8_loanOf_69 rfl rfl ?_
            obtain ⟨v13, h9_13, h⟩ := bnd1_inv h
            refine K.callV0 (q := 73) mkX8_sizeOf mw_X8_157 (s_X8_sizeOf _ _ h9_13) rfl (by decide) rfl (lt141 (by decide)) rx131 (Nat.le_of_ble_eq_true rfl) (Nat.le_of_ble_eq_true rfl) (Nat.le_of_ble_eq_true rfl) dX8_loanOf_70 rfl ?_
            obtain ⟨v14, X14, h9_14, h⟩ := bnd2_inv h
            refine K.callV0 (q := 76) mkX8_done mw_X8_105 (s_X8_done _ _ h9_14) rfl (by decide) rfl (lt141 (by decide)) rx131 (Nat.le_of_ble_eq_true rfl) (Nat.le_of_ble_eq_true rfl) (Nat.le_of_ble_eq_true rfl) dX8_loanOf_73 rfl ?_
            obtain ⟨e_vo, e_Xo⟩ := ret2_inv h
            exact C.iret rfl rfl (congrArg (fun z => Sum.inl (some (Value.int z))) e_vo.symm) (congrArg mkH e_Xo) (Nat.le_of_ble_eq_true rfl) (Nat.le_of_ble_eq_true rfl) dX8_loanOf_76
          · skip
            rw [if_neg c_15_12] at h
            by_cases c_15_15 : what = 4
            · refine K.tableIn (tgt := 77) dX8_loanOf_15 (by rw [c_15_15]; decide) (by rw [c_15_15]; decide) (by rw [c_15_15]; try rfl) (by decide) ?_
              rw [if_pos c_15_15] at h
              refine K.aload_n (q := 78) dX8_loanOf_77 rfl rfl ?_
              refine K.aload_n (q := 79) dX8_loanOf_78 rfl rfl ?_
              refine K.iload_n (q := 80) dX8_loanOf_79 rfl rfl ?_
              obtain ⟨v16, h9_16, h⟩ := bnd1_inv h
              refine K.callV0 (q := 83) mkX8_sizeOf mw_X8_157 (s_X8_sizeOf _ _ h9_16) rfl (by decide) rfl (lt141 (by decide)) rx131 (Nat.le_of_ble_eq_true rfl) (Nat.le_of_ble_eq_true rfl) (Nat.le_of_ble_eq_true rfl) dX8_loanOf_80 rfl ?_
              refine K.aload_n (q := 84) dX8_loanOf_83 rfl rfl ?_
              refine K.getf (q := 87) (v := .ref 132) fo_X8_7.r rx131 (lt141 (by decide)) rfl dX8_loanOf_84 rfl ?_
              refine K.bipush (q := 89) (v := 81) dX8_loanOf_87 rfl (by decide) ?_
              refine K.iload_n (q := 90) dX8_loanOf_89 rfl rfl ?_
              refine K.iadd (q := 91) dX8_loanOf_90 rfl ?_
              obtain ⟨k_17, h⟩ := chk_inv h
              refine K.ial (q := 92) (f := (X.2.2.1 5)) (m := ((81 + loan).toNatClampNeg)) rx132 (lt141 (by decide)) (cl_nI k_17.1) k_17.2 (by decide) dX8_loanOf_91 rfl ?_
              refine K.isub (q := 93) dX8_loanOf_92 rfl ?_
              obtain ⟨v18, X18, h9_18, h⟩ := bnd2_inv h
              refine K.callV0 (q := 96) mkX8_done mw_X8_105 (s_X8_done _ _ h9_18) rfl (by decide) rfl (lt141 (by decide)) rx131 (Nat.le_of_ble_eq_true rfl) (Nat.le_of_ble_eq_true rfl) (Nat.le_of_ble_eq_true rfl) dX8_loanOf_93 rfl ?_
              obtain ⟨e_vo, e_Xo⟩ := ret2_inv h
              exact C.iret rfl rfl (congrArg (fun z => Sum.inl (some (Value.int z))) e_vo.symm) (congrArg mkH e_Xo) (Nat.le_of_ble_eq_true rfl) (Nat.le_of_ble_eq_true rfl) dX8_loanOf_96
            · skip
              rw [if_neg c_15_15] at h
              refine K.tableOut (tgt := 97) dX8_loanOf_15 (by have e0 := lv_neT (k := 0) (a := 0) c_15_3 (by decide); have e1 := lv_neT (k := 1) (a := 1) c_15_6 (by decide); have e2 := lv_neT (k := 2) (a := 2) c_15_9 (by decide); have e3 := lv_neT (k := 3) (a := 3) c_15_12 (by decide); have e4 := lv_neT (k := 4) (a := 4) c_15_15 (by decide); omega) (by decide) ?_
              refine K.aload_n (q := 98) dX8_loanOf_97 rfl rfl ?_
              refine K.iconst (q := 99) (v := 2) dX8_loanOf_98 rfl (by decide) ?_
              obtain ⟨v19, X19, h9_19, h⟩ := bnd2_inv h
              refine K.callV0 (q := 102) mkX8_fails mw_X8_98 (s_X8_fails _ _ h9_19) rfl (by decide) rfl (lt141 (by decide)) rx131 (Nat.le_of_ble_eq_true rfl) (Nat.le_of_ble_eq_true rfl) (Nat.le_of_ble_eq_true rfl) dX8_loanOf_99 rfl ?_
              obtain ⟨e_vo, e_Xo⟩ := ret2_inv h
              exact C.iret rfl rfl (congrArg (fun z => Sum.inl (some (Value.int z))) e_vo.symm) (congrArg mkH e_Xo) (Nat.le_of_ble_eq_true rfl) (Nat.le_of_ble_eq_true rfl) dX8_loanOf_102
  · rw [if_pos c_5_2] at h
    refine K.aload_n (q := 9) dX8_loanOf_8 rfl rfl ?_
    refine K.iconst (q := 10) (v := 1) dX8_loanOf_9 rfl (by decide) ?_
    obtain ⟨v20, X20, h9_20, h⟩ := bnd2_inv h
    refine K.callV0 (q := 13) mkX8_fails mw_X8_98 (s_X8_fails _ _ h9_20) rfl (by decide) rfl (lt141 (by decide)) rx131 (Nat.le_of_ble_eq_true rfl) (Nat.le_of_ble_eq_true rfl) (Nat.le_of_ble_eq_true rfl) dX8_loanOf_10 rfl ?_
    obtain ⟨e_vo, e_Xo⟩ := ret2_inv h
    exact C.iret rfl rfl (congrArg (fun z => Sum.inl (some (Value.int z))) e_vo.symm) (congrArg mkH e_Xo) (Nat.le_of_ble_eq_true rfl) (Nat.le_of_ble_eq_true rfl) dX8_loanOf_13

def lp_X8_held_5 (X : GS) (name : Int32) (what : Int32) : Nat → Nat → Int32 → Option (Int32)
  | 0, _, a3_5 => some a3_5
  | j5 + 1, i5, a3_5 => (if (65 + i5) < 129 then (if ((X.2.2.1 5) ((65 + i5))) = name then (if what = 0 then (lp_X8_held_5 X name what j5 (i5 + 1) (a3_5 + 1)) else (if what = 1 then (if (81 + i5) < 129 then (lp_X8_held_5 X name what j5 (i5 + 1) (a3_5 + ((X.2.2.1 5) ((81 + i5))))) else none) else (bnd1 (m_X8_sizeOf X (nI i5)) fun (v7 : Int32) => (lp_X8_held_5 X name what j5 (i5 + 1) (a3_5 + v7))))) else (lp_X8_held_5 X name what j5 (i5 + 1) a3_5)) else none)

def m_X8_held (X : GS) (name : Int32) (what : Int32) : Option (Int32) := (bnd1 (lp_X8_held_5 X name what ((((X.2.2.1 5) 64)).toNatClampNeg) 0 0) fun (a3_5_9 : Int32) => (some a3_5_9))
set_option maxRecDepth 20000 in
set_option maxHeartbeats 1000000 in
theorem s_X8_held (X : GS) (name : Int32) (what : Int32) {vo : Int32} (h : m_X8_held X name what = some vo) : Ct 2 0 0 yX8_held (.code yX8_held cX8_held 5 (some (.int))) [.ref 131, .int name, .int what] (mkH X) (.inl (some (.int vo))) (mkH X) := by
  refine Ct.of (LL := [some (.ref 131), some (.int name), some (.int what), none, none]) mkX8_held.1 owX8_held rfl (Nat.le_of_ble_eq_true rfl) rfl (fun Wk C => ?_)
  have K := C.core
  rw [m_X8_held] at h
  refine K.iconst (q := 1) (v := 0) dX8_held_0 rfl (by decide) ?_
  refine K.istore_n (q := 2) (i := 3) dX8_held_1 rfl rfl (by decide) rfl ?_
  refine K.iconst (q := 3) (v := 0) dX8_held_2 rfl (by decide) ?_
  refine K.istore (q := 5) dX8_held_3 rfl (by decide) rfl ?_
  have L5 : ∀ (j5 i5 : Nat) (a3_5 : Int32) (a3_5r : Int32), i5 + j5 = ((((X.2.2.1 5) 64)).toNatClampNeg) → lp_X8_held_5 X name what j5 i5 a3_5 = some a3_5r → (Wk 0 0 72 [some (.ref 131), some (.int name), some (.int what), some (.int a3_5r), none] [] (mkH X)) → Wk 0 0 5 [some (.ref 131), some (.int name), some (.int what), some (.int a3_5), some (.int (nI i5))] [] (mkH X) := by
    intro j5
    induction j5 with
    | zero =>
      intro i5 a3_5 a3_5r hij h hx
      rw [lp_X8_held_5] at h
      refine K.iload (q := 7) dX8_held_5 rfl rfl ?_
      refine K.aload_n (q := 8) dX8_held_7 rfl rfl ?_
      refine K.getf (q := 11) (v := .ref 132) fo_X8_7.r rx131 (lt141 (by decide)) rfl dX8_held_8 rfl ?_
      refine K.bipush (q := 13) (v := 64) dX8_held_11 rfl (by decide) ?_
      refine K.ial (q := 14) (f := (X.2.2.1 5)) (m := 64) rx132 (lt141 (by decide)) rfl (by decide) (by decide) dX8_held_13 rfl ?_
      refine K.icmp_ge (q := 17) (tgt := 72) dX8_held_14 rfl (by decide) (fun _ => ?_) (fun z => absurd z (not_not_intro (cl_ge (B := ((X.2.2.1 5) 64)) (by omega))))
      refine K.drop 4 ?_
      obtain q0 := ret1_inv h
      subst q0
      exact hx
    | succ j5 ih =>
      intro i5 a3_5 a3_5r hij h hx
      rw [lp_X8_held_5] at h
      refine K.iload (q := 7) dX8_held_5 rfl rfl ?_
      refine K.aload_n (q := 8) dX8_held_7 rfl rfl ?_
      refine K.getf (q := 11) (v := .ref 132) fo_X8_7.r rx131 (lt141 (by decide)) rfl dX8_held_8 rfl ?_
      refine K.bipush (q := 13) (v := 64) dX8_held_11 rfl (by decide) ?_
      refine K.ial (q := 14) (f := (X.2.2.1 5)) (m := 64) rx132 (lt141 (by decide)) rfl (by decide) (by decide) dX8_held_13 rfl ?_
      refine K.icmp_ge (q := 17) (tgt := 72) dX8_held_14 rfl (by decide) (fun z => absurd z (cl_nge (B := ((X.2.2.1 5) 64)) (by omega))) (fun _ => ?_)
      refine K.aload_n (q := 18) dX8_held_17 rfl rfl ?_
      refine K.getf (q := 21) (v := .ref 132) fo_X8_7.r rx131 (lt141 (by decide)) rfl dX8_held_18 rfl ?_
      refine K.bipush (q := 23) (v := 65) dX8_held_21 rfl (by decide) ?_
      refine K.iload (q := 25) dX8_held_23 rfl rfl ?_
      refine K.iaddE (q := 26) (z := (nI (65 + i5))) (nI_add 65 i5) dX8_held_25 rfl ?_
      obtain ⟨k_3, h⟩ := chk_inv h
      refine K.ial (q := 27) (f := (X.2.2.1 5)) (m := ((65 + i5))) rx132 (lt141 (by decide)) rfl k_3 (by decide) dX8_held_26 rfl ?_
      refine K.iload_n (q := 28) dX8_held_27 rfl rfl ?_
      refine K.icmp_ne (q := 31) (tgt := 66) dX8_held_28 rfl (by decide) (fun c_28_4 => ?_) (fun c_28_4 => ?_)
      · rw [if_neg c_28_4] at h
        refine K.iinc (q := 69) (v := (nI (i5 + 1))) dX8_held_66 rfl rfl (nI_1 _) (by decide) rfl ?_
        refine K.goto (tgt := 5) dX8_held_69 (by decide) ?_
        exact ih (i5 + 1) a3_5 _ (by omega) h hx
      · rw [if_pos c_28_4] at h
        refine K.iload_n (q := 32) dX8_held_31 rfl rfl ?_
        refine K.iload_n (q := 33) dX8_held_32 rfl rfl ?_
        refine K.if_ne (q := 36) (tgt := 40) dX8_held_33 rfl (by decide) (fun c_33_5 => ?_) (fun c_33_5 => ?_)
        · rw [if_neg c_33_5] at h
          refine K.iload_n (q := 41) dX8_held_40 rfl rfl ?_
          refine K.iconst (q := 42) (v := 1) dX8_held_41 rfl (by decide) ?_
          refine K.icmp_ne (q := 45) (tgt := 58) dX8_held_42 rfl (by decide) (fun c_42_6 => ?_) (fun c_42_6 => ?_)
          · rw [if_neg c_42_6] at h
            refine K.aload_n (q := 59) dX8_held_58 rfl rfl ?_
            refine K.iload (q := 61) dX8_held_59 rfl rfl ?_
            obtain ⟨v7, h9_7, h⟩ := bnd1_inv h
            refine K.callV0 (q := 64) mkX8_sizeOf mw_X8_157 (s_X8_sizeOf _ _ h9_7) rfl (by decide) rfl (lt141 (by decide)) rx131 (Nat.le_of_ble_eq_true rfl) (Nat.le_of_ble_eq_true rfl) (Nat.le_of_ble_eq_true rfl) dX8_held_61 rfl ?_
            refine K.iadd (q := 65) dX8_held_64 rfl ?_
            refine K.istore_n (q := 66) (i := 3) dX8_held_65 rfl rfl (by decide) rfl ?_
            refine K.iinc (q := 69) (v := (nI (i5 + 1))) dX8_held_66 rfl rfl (nI_1 _) (by decide) rfl ?_
            refine K.goto (tgt := 5) dX8_held_69 (by decide) ?_
            exact ih (i5 + 1) (a3_5 + v7) _ (by omega) h hx
          · rw [if_pos c_42_6] at h
            refine K.aload_n (q := 46) dX8_held_45 rfl rfl ?_
            refine K.getf (q := 49) (v := .ref 132) fo_X8_7.r rx131 (lt141 (by decide)) rfl dX8_held_46 rfl ?_
            refine K.bipush (q := 51) (v := 81) dX8_held_49 rfl (by decide) ?_
            refine K.iload (q := 53) dX8_held_51 rfl rfl ?_
            refine K.iaddE (q := 54) (z := (nI (81 + i5))) (nI_add 81 i5) dX8_held_53 rfl ?_
            obtain ⟨k_8, h⟩ := chk_inv h
            refine K.ial (q := 55) (f := (X.2.2.1 5)) (m := ((81 + i5))) rx132 (lt141 (by decide)) rfl k_8 (by decide) dX8_held_54 rfl ?_
            refine K.goto (tgt := 64) dX8_held_55 (by decide) ?_
            refine K.iadd (q := 65) dX8_held_64 rfl ?_
            refine K.istore_n (q := 66) (i := 3) dX8_held_65 rfl rfl (by decide) rfl ?_
            refine K.iinc (q := 69) (v := (nI (i5 + 1))) dX8_held_66 rfl rfl (nI_1 _) (by decide) rfl ?_
            refine K.goto (tgt := 5) dX8_held_69 (by decide) ?_
            exact ih (i5 + 1) (a3_5 + ((X.2.2.1 5) ((81 + i5)))) _ (by omega) h hx
        · rw [if_pos c_33_5] at h
          refine K.iconst (q := 37) (v := 1) dX8_held_36 rfl (by decide) ?_
          refine K.goto (tgt := 64) dX8_held_37 (by decide) ?_
          refine K.iadd (q := 65) dX8_held_64 rfl ?_
          refine K.istore_n (q := 66) (i := 3) dX8_held_65 rfl rfl (by decide) rfl ?_
          refine K.iinc (q := 69) (v := (nI (i5 + 1))) dX8_held_66 rfl rfl (nI_1 _) (by decide) rfl ?_
          refine K.goto (tgt := 5) dX8_held_69 (by decide) ?_
          exact ih (i5 + 1) (a3_5 + 1) _ (by omega) h hx
  obtain ⟨a3_5_9, h9_9, h⟩ := bnd1_inv h
  refine L5 ((((X.2.2.1 5) 64)).toNatClampNeg) 0 0 _ (by omega) h9_9 ?_
  refine K.iload_n (q := 73) dX8_held_72 rfl rfl ?_
  obtain e_vo := ret1_inv h
  exact C.iret rfl rfl (congrArg (fun z => Sum.inl (some (Value.int z))) e_vo.symm) rfl (Nat.le_of_ble_eq_true rfl) (Nat.le_of_ble_eq_true rfl) dX8_held_73

def m_X8_nameOf (X : GS) (name : Int32) (what : Int32) : Option (Int32 × GS) := (bnd1 (m_X8_isName name) fun (v1 : Int32) => (if v1 = 0 then (bnd2 (m_X8_fails X 1) fun (v11 : Int32) (X11 : GS) => (some (v11, X11))) else (bnd1 (m_X8_in what 0 3) fun (v3 : Int32) => (if v3 = 0 then (bnd2 (m_X8_fails X 2) fun (v10 : Int32) (X10 : GS) => (some (v10, X10))) else (if what = 3 then (bnd1 (m_X8_waitingFor X name) fun (v8 : Int32) => (bnd2 (m_X8_done X v8) fun (v9 : Int32) (X9 : GS) => (some (v9, X9)))) else (bnd1 (m_X8_held X name what) fun (v6 : Int32) => (bnd2 (m_X8_done X v6) fun (v7 : Int32) (X7 : GS) => (some (v7, X7)))))))))
set_option maxRecDepth 20000 in
set_option maxHeartbeats 1000000 in
theorem s_X8_nameOf (X : GS) (name : Int32) (what : Int32) {vo : Int32} {Xo : GS} (h : m_X8_nameOf X name what = some (vo, Xo)) : Ct 3 0 0 yX8_nameOf (.code yX8_nameOf cX8_nameOf 3 (some (.int))) [.ref 131, .int name, .int what] (mkH X) (.inl (some (.int vo))) (mkH Xo) := by
  refine Ct.of (LL := [some (.ref 131), some (.int name), some (.int what)]) mkX8_nameOf.1 owX8_nameOf rfl (Nat.le_of_ble_eq_true rfl) rfl (fun Wk C => ?_)
  have K := C.core
  rw [m_X8_nameOf] at h
  refine K.iload_n (q := 1) dX8_nameOf_0 rfl rfl ?_
  obtain ⟨v1, h9_1, h⟩ := bnd1_inv h
  refine K.callS0 (q := 4) mkX8_isName mw_X8_92 (s_X8_isName _ _ h9_1) rfl (by decide) rfl (Nat.le_of_ble_eq_true rfl) (Nat.le_of_ble_eq_true rfl) (Nat.le_of_ble_eq_true rfl) dX8_nameOf_1 rfl ?_
  refine K.if_ne (q := 7) (tgt := 13) dX8_nameOf_4 rfl (by decide) (fun c_4_2 => ?_) (fun c_4_2 => ?_)
  · rw [if_neg c_4_2] at h
    refine K.iload_n (q := 14) dX8_nameOf_13 rfl rfl ?_
    refine K.iconst (q := 15) (v := 0) dX8_nameOf_14 rfl (by decide) ?_
    refine K.iconst (q := 16) (v := 3) dX8_nameOf_15 rfl (by decide) ?_
    obtain ⟨v3, h9_3, h⟩ := bnd1_inv h
    refine K.callS0 (q := 19) mkX8_in mw_X8_56 (s_X8_in _ _ _ _ h9_3) rfl (by decide) rfl (Nat.le_of_ble_eq_true rfl) (Nat.le_of_ble_eq_true rfl) (Nat.le_of_ble_eq_true rfl) dX8_nameOf_16 rfl ?_
    refine K.if_ne (q := 22) (tgt := 28) dX8_nameOf_19 rfl (by decide) (fun c_19_4 => ?_) (fun c_19_4 => ?_)
    · rw [if_neg c_19_4] at h
      refine K.aload_n (q := 29) dX8_nameOf_28 rfl rfl ?_
      refine K.iload_n (q := 30) dX8_nameOf_29 rfl rfl ?_
      refine K.iconst (q := 31) (v := 3) dX8_nameOf_30 rfl (by decide) ?_
      refine K.icmp_ne (q := 34) (tgt := 42) dX8_nameOf_31 rfl (by decide) (fun c_31_5 => ?_) (fun c_31_5 => ?_)
      · rw [if_neg c_31_5] at h
        refine K.aload_n (q := 43) dX8_nameOf_42 rfl rfl ?_
        refine K.iload_n (q := 44) dX8_nameOf_43 rfl rfl ?_
        refine K.iload_n (q := 45) dX8_nameOf_44 rfl rfl ?_
        obtain ⟨v6, h9_6, h⟩ := bnd1_inv h
        refine K.callV0 (q := 48) mkX8_held mw_X8_160 (s_X8_held _ _ _ h9_6) rfl (by decide) rfl (lt141 (by decide)) rx131 (Nat.le_of_ble_eq_true rfl) (Nat.le_of_ble_eq_true rfl) (Nat.le_of_ble_eq_true rfl) dX8_nameOf_45 rfl ?_
        obtain ⟨v7, X7, h9_7, h⟩ := bnd2_inv h
        refine K.callV0 (q := 51) mkX8_done mw_X8_105 (s_X8_done _ _ h9_7) rfl (by decide) rfl (lt141 (by decide)) rx131 (Nat.le_of_ble_eq_true rfl) (Nat.le_of_ble_eq_true rfl) (Nat.le_of_ble_eq_true rfl) dX8_nameOf_48 rfl ?_
        obtain ⟨e_vo, e_Xo⟩ := ret2_inv h
        exact C.iret rfl rfl (congrArg (fun z => Sum.inl (some (Value.int z))) e_vo.symm) (congrArg mkH e_Xo) (Nat.le_of_ble_eq_true rfl) (Nat.le_of_ble_eq_true rfl) dX8_nameOf_51
      · rw [if_pos c_31_5] at h
        refine K.aload_n (q := 35) dX8_nameOf_34 rfl rfl ?_
        refine K.iload_n (q := 36) dX8_nameOf_35 rfl rfl ?_
        obtain ⟨v8, h9_8, h⟩ := bnd1_inv h
        refine K.callV0 (q := 39) mkX8_waitingFor mw_X8_139 (s_X8_waitingFor _ _ h9_8) rfl (by decide) rfl (lt141 (by decide)) rx131 (Nat.le_of_ble_eq_true rfl) (Nat.le_of_ble_eq_true rfl) (Nat.le_of_ble_eq_true rfl) dX8_nameOf_36 rfl ?_
        refine K.goto (tgt := 48) dX8_nameOf_39 (by decide) ?_
        obtain ⟨v9, X9, h9_9, h⟩ := bnd2_inv h
        refine K.callV0 (q := 51) mkX8_done mw_X8_105 (s_X8_done _ _ h9_9) rfl (by decide) rfl (lt141 (by decide)) rx131 (Nat.le_of_ble_eq_true rfl) (Nat.le_of_ble_eq_true rfl) (Nat.le_of_ble_eq_true rfl) dX8_nameOf_48 rfl ?_
        obtain ⟨e_vo, e_Xo⟩ := ret2_inv h
        exact C.iret rfl rfl (congrArg (fun z => Sum.inl (some (Value.int z))) e_vo.symm) (congrArg mkH e_Xo) (Nat.le_of_ble_eq_true rfl) (Nat.le_of_ble_eq_true rfl) dX8_nameOf_51
    · rw [if_pos c_19_4] at h
      refine K.aload_n (q := 23) dX8_nameOf_22 rfl rfl ?_
      refine K.iconst (q := 24) (v := 2) dX8_nameOf_23 rfl (by decide) ?_
      obtain ⟨v10, X10, h9_10, h⟩ := bnd2_inv h
      refine K.callV0 (q := 27) mkX8_fails mw_X8_98 (s_X8_fails _ _ h9_10) rfl (by decide) rfl (lt141 (by decide)) rx131 (Nat.le_of_ble_eq_true rfl) (Nat.le_of_ble_eq_true rfl) (Nat.le_of_ble_eq_true rfl) dX8_nameOf_24 rfl ?_
      obtain ⟨e_vo, e_Xo⟩ := ret2_inv h
      exact C.iret rfl rfl (congrArg (fun z => Sum.inl (some (Value.int z))) e_vo.symm) (congrArg mkH e_Xo) (Nat.le_of_ble_eq_true rfl) (Nat.le_of_ble_eq_true rfl) dX8_nameOf_27
  · rw [if_pos c_4_2] at h
    refine K.aload_n (q := 8) dX8_nameOf_7 rfl rfl ?_
    refine K.iconst (q := 9) (v := 1) dX8_nameOf_8 rfl (by decide) ?_
    obtain ⟨v11, X11, h9_11, h⟩ := bnd2_inv h
    refine K.callV0 (q := 12) mkX8_fails mw_X8_98 (s_X8_fails _ _ h9_11) rfl (by decide) rfl (lt141 (by decide)) rx131 (Nat.le_of_ble_eq_true rfl) (Nat.le_of_ble_eq_true rfl) (Nat.le_of_ble_eq_true rfl) dX8_nameOf_9 rfl ?_
    obtain ⟨e_vo, e_Xo⟩ := ret2_inv h
    exact C.iret rfl rfl (congrArg (fun z => Sum.inl (some (Value.int z))) e_vo.symm) (congrArg mkH e_Xo) (Nat.le_of_ble_eq_true rfl) (Nat.le_of_ble_eq_true rfl) dX8_nameOf_12

def m_X8_waitingOf (X : GS) (place : Int32) (what : Int32) : Option (Int32 × GS) := (bnd1 (m_X8_in place 0 (((X.2.2.1 5) 113) - 1)) fun (v1 : Int32) => (if v1 = 0 then (bnd2 (m_X8_fails X 1) fun (v11 : Int32) (X11 : GS) => (some (v11, X11))) else (bnd1 (m_X8_in what 0 1) fun (v3 : Int32) => (if v3 = 0 then (bnd2 (m_X8_fails X 2) fun (v5 : Int32) (X5 : GS) => (some (v5, X5))) else (if what = 0 then (if inR (114 + place) 129 then (bnd2 (m_X8_done X ((X.2.2.1 5) ((114 + place).toNatClampNeg))) fun (v10 : Int32) (X10 : GS) => (some (v10, X10))) else none) else (if inR (120 + place) 129 then (bnd2 (m_X8_done X ((X.2.2.1 5) ((120 + place).toNatClampNeg))) fun (v8 : Int32) (X8 : GS) => (some (v8, X8))) else none))))))
set_option maxRecDepth 20000 in
set_option maxHeartbeats 1000000 in
theorem s_X8_waitingOf (X : GS) (place : Int32) (what : Int32) {vo : Int32} {Xo : GS} (h : m_X8_waitingOf X place what = some (vo, Xo)) : Ct 2 0 0 yX8_waitingOf (.code yX8_waitingOf cX8_waitingOf 3 (some (.int))) [.ref 131, .int place, .int what] (mkH X) (.inl (some (.int vo))) (mkH Xo) := by
  refine Ct.of (LL := [some (.ref 131), some (.int place), some (.int what)]) mkX8_waitingOf.1 owX8_waitingOf rfl (Nat.le_of_ble_eq_true rfl) rfl (fun Wk C => ?_)
  have K := C.core
  rw [m_X8_waitingOf] at h
  refine K.iload_n (q := 1) dX8_waitingOf_0 rfl rfl ?_
  refine K.iconst (q := 2) (v := 0) dX8_waitingOf_1 rfl (by decide) ?_
  refine K.aload_n (q := 3) dX8_waitingOf_2 rfl rfl ?_
  refine K.getf (q := 6) (v := .ref 132) fo_X8_7.r rx131 (lt141 (by decide)) rfl dX8_waitingOf_3 rfl ?_
  refine K.bipush (q := 8) (v := 113) dX8_waitingOf_6 rfl (by decide) ?_
  refine K.ial (q := 9) (f := (X.2.2.1 5)) (m := 113) rx132 (lt141 (by decide)) rfl (by decide) (by decide) dX8_waitingOf_8 rfl ?_
  refine K.iconst (q := 10) (v := 1) dX8_waitingOf_9 rfl (by decide) ?_
  refine K.isub (q := 11) dX8_waitingOf_10 rfl ?_
  obtain ⟨v1, h9_1, h⟩ := bnd1_inv h
  refine K.callS0 (q := 14) mkX8_in mw_X8_56 (s_X8_in _ _ _ _ h9_1) rfl (by decide) rfl (Nat.le_of_ble_eq_true rfl) (Nat.le_of_ble_eq_true rfl) (Nat.le_of_ble_eq_true rfl) dX8_waitingOf_11 rfl ?_
  refine K.if_ne (q := 17) (tgt := 23) dX8_waitingOf_14 rfl (by decide) (fun c_14_2 => ?_) (fun c_14_2 => ?_)
  · rw [if_neg c_14_2] at h
    refine K.iload_n (q := 24) dX8_waitingOf_23 rfl rfl ?_
    refine K.iconst (q := 25) (v := 0) dX8_waitingOf_24 rfl (by decide) ?_
    refine K.iconst (q := 26) (v := 1) dX8_waitingOf_25 rfl (by decide) ?_
    obtain ⟨v3, h9_3, h⟩ := bnd1_inv h
    refine K.callS0 (q := 29) mkX8_in mw_X8_56 (s_X8_in _ _ _ _ h9_3) rfl (by decide) rfl (Nat.le_of_ble_eq_true rfl) (Nat.le_of_ble_eq_true rfl) (Nat.le_of_ble_eq_true rfl) dX8_waitingOf_26 rfl ?_
    refine K.if_eq (q := 32) (tgt := 57) dX8_waitingOf_29 rfl (by decide) (fun c_29_4 => ?_) (fun c_29_4 => ?_)
    · rw [if_pos c_29_4] at h
      refine K.aload_n (q := 58) dX8_waitingOf_57 rfl rfl ?_
      refine K.iconst (q := 59) (v := 2) dX8_waitingOf_58 rfl (by decide) ?_
      obtain ⟨v5, X5, h9_5, h⟩ := bnd2_inv h
      refine K.callV0 (q := 62) mkX8_fails mw_X8_98 (s_X8_fails _ _ h9_5) rfl (by decide) rfl (lt141 (by decide)) rx131 (Nat.le_of_ble_eq_true rfl) (Nat.le_of_ble_eq_true rfl) (Nat.le_of_ble_eq_true rfl) dX8_waitingOf_59 rfl ?_
      obtain ⟨e_vo, e_Xo⟩ := ret2_inv h
      exact C.iret rfl rfl (congrArg (fun z => Sum.inl (some (Value.int z))) e_vo.symm) (congrArg mkH e_Xo) (Nat.le_of_ble_eq_true rfl) (Nat.le_of_ble_eq_true rfl) dX8_waitingOf_62
    · rw [if_neg c_29_4] at h
      refine K.aload_n (q := 33) dX8_waitingOf_32 rfl rfl ?_
      refine K.aload_n (q := 34) dX8_waitingOf_33 rfl rfl ?_
      refine K.getf (q := 37) (v := .ref 132) fo_X8_7.r rx131 (lt141 (by decide)) rfl dX8_waitingOf_34 rfl ?_
      refine K.iload_n (q := 38) dX8_waitingOf_37 rfl rfl ?_
      refine K.if_ne (q := 41) (tgt := 46) dX8_waitingOf_38 rfl (by decide) (fun c_38_6 => ?_) (fun c_38_6 => ?_)
      · rw [if_neg c_38_6] at h
        refine K.bipush (q := 48) (v := 120) dX8_waitingOf_46 rfl (by decide) ?_
        refine K.iload_n (q := 49) dX8_waitingOf_48 rfl rfl ?_
        refine K.iadd (q := 50) dX8_waitingOf_49 rfl ?_
        obtain ⟨k_7, h⟩ := chk_inv h
        refine K.ial (q := 51) (f := (X.2.2.1 5)) (m := ((120 + place).toNatClampNeg)) rx132 (lt141 (by decide)) (cl_nI k_7.1) k_7.2 (by decide) dX8_waitingOf_50 rfl ?_
        obtain ⟨v8, X8, h9_8, h⟩ := bnd2_inv h
        refine K.callV0 (q := 54) mkX8_done mw_X8_105 (s_X8_done _ _ h9_8) rfl (by decide) rfl (lt141 (by decide)) rx131 (Nat.le_of_ble_eq_true rfl) (Nat.le_of_ble_eq_true rfl) (Nat.le_of_ble_eq_true rfl) dX8_waitingOf_51 rfl ?_
        refine K.goto (tgt := 62) dX8_waitingOf_54 (by decide) ?_
        obtain ⟨e_vo, e_Xo⟩ := ret2_inv h
        exact C.iret rfl rfl (congrArg (fun z => Sum.inl (some (Value.int z))) e_vo.symm) (congrArg mkH e_Xo) (Nat.le_of_ble_eq_true rfl) (Nat.le_of_ble_eq_true rfl) dX8_waitingOf_62
      · rw [if_pos c_38_6] at h
        refine K.bipush (q := 43) (v := 114) dX8_waitingOf_41 rfl (by decide) ?_
        refine K.goto (tgt := 48) dX8_waitingOf_43 (by decide) ?_
        refine K.iload_n (q := 49) dX8_waitingOf_48 rfl rfl ?_
        refine K.iadd (q := 50) dX8_waitingOf_49 rfl ?_
        obtain ⟨k_9, h⟩ := chk_inv h
        refine K.ial (q := 51) (f := (X.2.2.1 5)) (m := ((114 + place).toNatClampNeg)) rx132 (lt141 (by decide)) (cl_nI k_9.1) k_9.2 (by decide) dX8_waitingOf_50 rfl ?_
        obtain ⟨v10, X10, h9_10, h⟩ := bnd2_inv h
        refine K.callV0 (q := 54) mkX8_done mw_X8_105 (s_X8_done _ _ h9_10) rfl (by decide) rfl (lt141 (by decide)) rx131 (Nat.le_of_ble_eq_true rfl) (Nat.le_of_ble_eq_true rfl) (Nat.le_of_ble_eq_true rfl) dX8_waitingOf_51 rfl ?_
        refine K.goto (tgt := 62) dX8_waitingOf_54 (by decide) ?_
        obtain ⟨e_vo, e_Xo⟩ := ret2_inv h
        exact C.iret rfl rfl (congrArg (fun z => Sum.inl (some (Value.int z))) e_vo.symm) (congrArg mkH e_Xo) (Nat.le_of_ble_eq_true rfl) (Nat.le_of_ble_eq_true rfl) dX8_waitingOf_62
  · rw [if_pos c_14_2] at h
    refine K.aload_n (q := 18) dX8_waitingOf_17 rfl rfl ?_
    refine K.iconst (q := 19) (v := 1) dX8_waitingOf_18 rfl (by decide) ?_
    obtain ⟨v11, X11, h9_11, h⟩ := bnd2_inv h
    refine K.callV0 (q := 22) mkX8_fails mw_X8_98 (s_X8_fails _ _ h9_11) rfl (by decide) rfl (lt141 (by decide)) rx131 (Nat.le_of_ble_eq_true rfl) (Nat.le_of_ble_eq_true rfl) (Nat.le_of_ble_eq_true rfl) dX8_waitingOf_19 rfl ?_
    obtain ⟨e_vo, e_Xo⟩ := ret2_inv h
    exact C.iret rfl rfl (congrArg (fun z => Sum.inl (some (Value.int z))) e_vo.symm) (congrArg mkH e_Xo) (Nat.le_of_ble_eq_true rfl) (Nat.le_of_ble_eq_true rfl) dX8_waitingOf_22
