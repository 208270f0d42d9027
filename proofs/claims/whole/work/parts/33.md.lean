def lp_X8_startOf_2 (X : GS) : Nat → Int32 → Option (Int32)
  | 0, _ => none
  | j2 + 1, a2_2 => (if inR a2_2 129 then (if ((X.2.2.1 5) (a2_2.toNatClampNeg)) = 0 then (lp_X8_startOf_2 X j2 (a2_2 + (-1))) else (some a2_2)) else none)

def m_X8_startOf (X : GS) (unit : Int32) : Option (Int32) := (bnd1 (lp_X8_startOf_2 X 1000 unit) fun (a2_2_3 : Int32) => (some a2_2_3))
set_option maxRecDepth 20000 in
set_option maxHeartbeats 1000000 in
theorem s_X8_startOf (X : GS) (unit : Int32) {vo : Int32} (h : m_X8_startOf X unit = some vo) : Ct 1 0 0 yX8_startOf (.code yX8_startOf cX8_startOf 3 (some (.int))) [.ref 131, .int unit] (mkH X) (.inl (some (.int vo))) (mkH X) := by
  refine Ct.of (LL := [some (.ref 131), some (.int unit), none]) mkX8_startOf.1 owX8_startOf rfl (Nat.le_of_ble_eq_true rfl) rfl (fun Wk C => ?_)
  have K := C.core
  rw [m_X8_startOf] at h
  refine K.iload_n (q := 1) dX8_startOf_0 rfl rfl ?_
  refine K.istore_n (q := 2) (i := 2) dX8_startOf_1 rfl rfl (by decide) rfl ?_
  have L2 : ∀ (j2 : Nat) (a2_2 : Int32) (a2_2r : Int32), lp_X8_startOf_2 X j2 a2_2 = some a2_2r → (Wk 0 0 17 [some (.ref 131), some (.int unit), some (.int a2_2r)] [] (mkH X)) → Wk 0 0 2 [some (.ref 131), some (.int unit), some (.int a2_2)] [] (mkH X) := by
    intro j2
    induction j2 with
    | zero =>
      intro a2_2 a2_2r h hx
      rw [lp_X8_startOf_2] at h
      cases h
    | succ j2 ih =>
      intro a2_2 a2_2r h hx
      rw [lp_X8_startOf_2] at h
      refine K.aload_n (q := 3) dX8_startOf_2 rfl rfl ?_
      refine K.getf (q := 6) (v := .ref 132) fo_X8_7.r rx131 (lt141 (by decide)) rfl dX8_startOf_3 rfl ?_
      refine K.iload_n (q := 7) dX8_startOf_6 rfl rfl ?_
      obtain ⟨k_1, h⟩ := chk_inv h
      refine K.ial (q := 8) (f := (X.2.2.1 5)) (m := (a2_2.toNatClampNeg)) rx132 (lt141 (by decide)) (cl_nI k_1.1) k_1.2 (by decide) dX8_startOf_7 rfl ?_
      refine K.if_ne (q := 11) (tgt := 17) dX8_startOf_8 rfl (by decide) (fun c_8_2 => ?_) (fun c_8_2 => ?_)
      · rw [if_neg c_8_2] at h
        obtain q0 := ret1_inv h
        subst q0
        exact hx
      · rw [if_pos c_8_2] at h
        refine K.iinc (q := 14) (v := (a2_2 + (-1))) dX8_startOf_11 rfl rfl rfl (by decide) rfl ?_
        refine K.goto (tgt := 2) dX8_startOf_14 (by decide) ?_
        exact ih (a2_2 + (-1)) _ h hx
  obtain ⟨a2_2_3, h9_3, h⟩ := bnd1_inv h
  refine L2 1000 unit _ h9_3 ?_
  refine K.iload_n (q := 18) dX8_startOf_17 rfl rfl ?_
  obtain e_vo := ret1_inv h
  exact C.iret rfl rfl (congrArg (fun z => Sum.inl (some (Value.int z))) e_vo.symm) rfl (Nat.le_of_ble_eq_true rfl) (Nat.le_of_ble_eq_true rfl) dX8_startOf_18

def m_X8_pieceOf (X : GS) (unit : Int32) (what : Int32) : Option (Int32 × GS) := (bnd1 (m_X8_in unit 0 63) fun (v1 : Int32) => (if v1 = 0 then (bnd2 (m_X8_fails X 1) fun (v19 : Int32) (X19 : GS) => (some (v19, X19))) else (bnd1 (m_X8_startOf X unit) fun (v3 : Int32) => (if what = 0 then (if inR v3 129 then (bnd2 (m_X8_done X ((X.2.2.1 5) (v3.toNatClampNeg))) fun (v6 : Int32) (X6 : GS) => (some (v6, X6))) else none) else (if what = 1 then (bnd2 (m_X8_done X v3) fun (v8 : Int32) (X8 : GS) => (some (v8, X8))) else (if what = 2 then (bnd1 (m_X8_loanAt X v3) fun (v10 : Int32) => (bnd2 (m_X8_done X v10) fun (v11 : Int32) (X11 : GS) => (some (v11, X11)))) else (if what = 3 then (if inR v3 129 then (if ((X.2.2.1 5) (v3.toNatClampNeg)) = 64 then (bnd2 (m_X8_done X (-1)) fun (v17 : Int32) (X17 : GS) => (some (v17, X17))) else (if inR v3 129 then (bnd2 (m_X8_done X (v3 ^^^ ((X.2.2.1 5) (v3.toNatClampNeg)))) fun (v16 : Int32) (X16 : GS) => (some (v16, X16))) else none)) else none) else (bnd2 (m_X8_fails X 2) fun (v18 : Int32) (X18 : GS) => (some (v18, X18))))))))))
set_option maxRecDepth 20000 in
set_option maxHeartbeats 1000000 in
theorem s_X8_pieceOf (X : GS) (unit : Int32) (what : Int32) {vo : Int32} {Xo : GS} (h : m_X8_pieceOf X unit what = some (vo, Xo)) : Ct 2 0 0 yX8_pieceOf (.code yX8_pieceOf cX8_pieceOf 4 (some (.int))) [.ref 131, .int unit, .int what] (mkH X) (.inl (some (.int vo))) (mkH Xo) := by
  refine Ct.of (LL := [some (.ref 131), some (.int unit), some (.int what), none]) mkX8_pieceOf.1 owX8_pieceOf rfl (Nat.le_of_ble_eq_true rfl) rfl (fun Wk C => ?_)
  have K := C.core
  rw [m_X8_pieceOf] at h
  refine K.iload_n (q := 1) dX8_pieceOf_0 rfl rfl ?_
  refine K.iconst (q := 2) (v := 0) dX8_pieceOf_1 rfl (by decide) ?_
  refine K.bipush (q := 4) (v := 63) dX8_pieceOf_2 rfl (by decide) ?_
  obtain ⟨v1, h9_1, h⟩ := bnd1_inv h
  refine K.callS0 (q := 7) mkX8_in mw_X8_56 (s_X8_in _ _ _ _ h9_1) rfl (by decide) rfl (Nat.le_of_ble_eq_true rfl) (Nat.le_of_ble_eq_true rfl) (Nat.le_of_ble_eq_true rfl) dX8_pieceOf_4 rfl ?_
  refine K.if_ne (q := 10) (tgt := 16) dX8_pieceOf_7 rfl (by decide) (fun c_7_2 => ?_) (fun c_7_2 => ?_)
  · rw [if_neg c_7_2] at h
    refine K.aload_n (q := 17) dX8_pieceOf_16 rfl rfl ?_
    refine K.iload_n (q := 18) dX8_pieceOf_17 rfl rfl ?_
    obtain ⟨v3, h9_3, h⟩ := bnd1_inv h
    refine K.callV0 (q := 21) mkX8_startOf mw_X8_163 (s_X8_startOf _ _ h9_3) rfl (by decide) rfl (lt141 (by decide)) rx131 (Nat.le_of_ble_eq_true rfl) (Nat.le_of_ble_eq_true rfl) (Nat.le_of_ble_eq_true rfl) dX8_pieceOf_18 rfl ?_
    refine K.istore_n (q := 22) (i := 3) dX8_pieceOf_21 rfl rfl (by decide) rfl ?_
    refine K.iload_n (q := 23) dX8_pieceOf_22 rfl rfl ?_
    by_cases c_23_4 : what = 0
    · refine K.tableIn (tgt := 52) dX8_pieceOf_23 (by rw [c_23_4]; decide) (by rw [c_23_4]; decide) (by rw [c_23_4]; try rfl) (by decide) ?_
      rw [if_pos c_23_4] at h
      refine K.aload_n (q := 53) dX8_pieceOf_52 rfl rfl ?_
      refine K.aload_n (q := 54) dX8_pieceOf_53 rfl rfl ?_
      refine K.getf (q := 57) (v := .ref 132) fo_X8_7.r rx131 (lt141 (by decide)) rfl dX8_pieceOf_54 rfl ?_
      refine K.iload_n (q := 58) dX8_pieceOf_57 rfl rfl ?_
      obtain ⟨k_5, h⟩ := chk_inv h
      refine K.ial (q := 59) (f := (X.2.2.1 5)) (m := (v3.toNatClampNeg)) rx132 (lt141 (by decide)) (cl_nI k_5.1) k_5.2 (by decide) dX8_pieceOf_58 rfl ?_
      obtain ⟨v6, X6, h9_6, h⟩ := bnd2_inv h
      refine K.callV0 (q := 62) mkX8_done mw_X8_105 (s_X8_done _ _ h9_6) rfl (by decide) rfl (lt141 (by decide)) rx131 (Nat.le_of_ble_eq_true rfl) (Nat.le_of_ble_eq_true rfl) (Nat.le_of_ble_eq_true rfl) dX8_pieceOf_59 rfl ?_
      obtain ⟨e_vo, e_Xo⟩ := ret2_inv h
      exact C.iret rfl rfl (congrArg (fun z => Sum.inl (some (Value.int z))) e_vo.symm) (congrArg mkH e_Xo) (Nat.le_of_ble_eq_true rfl) (Nat.le_of_ble_eq_true rfl) dX8_pieceOf_62
    · skip
      rw [if_neg c_23_4] at h
      by_cases c_23_7 : what = 1
      · refine K.tableIn (tgt := 63) dX8_pieceOf_23 (by rw [c_23_7]; decide) (by rw [c_23_7]; decide) (by rw [c_23_7]; try rfl) (by decide) ?_
        rw [if_pos c_23_7] at h
        refine K.aload_n (q := 64) dX8_pieceOf_63 rfl rfl ?_
        refine K.iload_n (q := 65) dX8_pieceOf_64 rfl rfl ?_
        obtain ⟨v8, X8, h9_8, h⟩ := bnd2_inv h
        refine K.callV0 (q := 68) mkX8_done mw_X8_105 (s_X8_done _ _ h9_8) rfl (by decide) rfl (lt141 (by decide)) rx131 (Nat.le_of_ble_eq_true rfl) (Nat.le_of_ble_eq_true rfl) (Nat.le_of_ble_eq_true rfl) dX8_pieceOf_65 rfl ?_
        obtain ⟨e_vo, e_Xo⟩ := ret2_inv h
        exact C.iret rfl rfl (congrArg (fun z => Sum.inl (some (Value.int z))) e_vo.symm) (congrArg mkH e_Xo) (Nat.le_of_ble_eq_true rfl) (Nat.le_of_ble_eq_true rfl) dX8_pieceOf_68
      · skip
        rw [if_neg c_23_7] at h
        by_cases c_23_9 : what = 2
        · refine K.tableIn (tgt := 69) dX8_pieceOf_23 (by rw [c_23_9]; decide) (by rw [c_23_9]; decide) (by rw [c_23_9]; try rfl) (by decide) ?_
          rw [if_pos c_23_9] at h
          refine K.aload_n (q := 70) dX8_pieceOf_69 rfl rfl ?_
          refine K.aload_n (q := 71) dX8_pieceOf_70 rfl rfl ?_
          refine K.iload_n (q := 72) dX8_pieceOf_71 rfl rfl ?_
          obtain ⟨v10, h9_10, h⟩ := bnd1_inv h
          refine K.callV0 (q := 75) mkX8_loanAt mw_X8_60 (s_X8_loanAt _ _ h9_10) rfl (by decide) rfl (lt141 (by decide)) rx131 (Nat.le_of_ble_eq_true rfl) (Nat.le_of_ble_eq_true rfl) (Nat.le_of_ble_eq_true rfl) dX8_pieceOf_72 rfl ?_
          obtain ⟨v11, X11, h9_11, h⟩ := bnd2_inv h
          refine K.callV0 (q := 78) mkX8_done mw_X8_105 (s_X8_done _ _ h9_11) rfl (by decide) rfl (lt141 (by decide)) rx131 (Nat.le_of_ble_eq_true rfl) (Nat.le_of_ble_eq_true rfl) (Nat.le_of_ble_eq_true rfl) dX8_pieceOf_75 rfl ?_
          obtain ⟨e_vo, e_Xo⟩ := ret2_inv h
          exact C.iret rfl rfl (congrArg (fun z => Sum.inl (some (Value.int z))) e_vo.symm) (congrArg mkH e_Xo) (Nat.le_of_ble_eq_true rfl) (Nat.le_of_ble_eq_true rfl) dX8_pieceOf_78
        · skip
          rw [if_neg c_23_9] at h
          by_cases c_23_12 : what = 3
          · refine K.tableIn (tgt := 79) dX8_pieceOf_23 (by rw [c_23_12]; decide) (by rw [c_23_12]; decide) (by rw [c_23_12]; try rfl) (by decide) ?_
            rw [if_pos c_23_12] at h
            refine K.aload_n (q := 80) dX8_pieceOf_79 rfl rfl ?_
            refine K.aload_n (q := 81) dX8_pieceOf_80 rfl rfl ?_
            refine K.getf (q := 84) (v := .ref 132) fo_X8_7.r rx131 (lt141 (by decide)) rfl dX8_pieceOf_81 rfl ?_
            refine K.iload_n (q := 85) dX8_pieceOf_84 rfl rfl ?_
            obtain ⟨k_13, h⟩ := chk_inv h
            refine K.ial (q := 86) (f := (X.2.2.1 5)) (m := (v3.toNatClampNeg)) rx132 (lt141 (by decide)) (cl_nI k_13.1) k_13.2 (by decide) dX8_pieceOf_85 rfl ?_
            refine K.bipush (q := 88) (v := 64) dX8_pieceOf_86 rfl (by decide) ?_
            refine K.icmp_ne (q := 91) (tgt := 95) dX8_pieceOf_88 rfl (by decide) (fun c_88_14 => ?_) (fun c_88_14 => ?_)
            · rw [if_neg c_88_14] at h
              refine K.iload_n (q := 96) dX8_pieceOf_95 rfl rfl ?_
              refine K.aload_n (q := 97) dX8_pieceOf_96 rfl rfl ?_
              refine K.getf (q := 100) (v := .ref 132) fo_X8_7.r rx131 (lt141 (by decide)) rfl dX8_pieceOf_97 rfl ?_
              refine K.iload_n (q := 101) dX8_pieceOf_100 rfl rfl ?_
              obtain ⟨k_15, h⟩ := chk_inv h
              refine K.ial (q := 102) (f := (X.2.2.1 5)) (m := (v3.toNatClampNeg)) rx132 (lt141 (by decide)) (cl_nI k_15.1) k_15.2 (by decide) dX8_pieceOf_101 rfl ?_
              refine K.ixor (q := 103) dX8_pieceOf_102 rfl ?_
              obtain ⟨v16, X16, h9_16, h⟩ := bnd2_inv h
              refine K.callV0 (q := 106) mkX8_done mw_X8_105 (s_X8_done _ _ h9_16) rfl (by decide) rfl (lt141 (by decide)) rx131 (Nat.le_of_ble_eq_true rfl) (Nat.le_of_ble_eq_true rfl) (Nat.le_of_ble_eq_true rfl) dX8_pieceOf_103 rfl ?_
              obtain ⟨e_vo, e_Xo⟩ := ret2_inv h
              exact C.iret rfl rfl (congrArg (fun z => Sum.inl (some (Value.int z))) e_vo.symm) (congrArg mkH e_Xo) (Nat.le_of_ble_eq_true rfl) (Nat.le_of_ble_eq_true rfl) dX8_pieceOf_106
            · rw [if_pos c_88_14] at h
              refine K.iconst (q := 92) (v := (-1)) dX8_pieceOf_91 rfl (by decide) ?_
              refine K.goto (tgt := 103) dX8_pieceOf_92 (by decide) ?_
              obtain ⟨v17, X17, h9_17, h⟩ := bnd2_inv h
              refine K.callV0 (q := 106) mkX8_done mw_X8_105 (s_X8_done _ _ h9_17) rfl (by decide) rfl (lt141 (by decide)) rx131 (Nat.le_of_ble_eq_true rfl) (Nat.le_of_ble_eq_true rfl) (Nat.le_of_ble_eq_true rfl) dX8_pieceOf_103 rfl ?_
              obtain ⟨e_vo, e_Xo⟩ := ret2_inv h
              exact C.iret rfl rfl (congrArg (fun z => Sum.inl (some (Value.int z))) e_vo.symm) (congrArg mkH e_Xo) (Nat.le_of_ble_eq_true rfl) (Nat.le_of_ble_eq_true rfl) dX8_pieceOf_106
          · skip
            rw [if_neg c_23_12] at h
            refine K.tableOut (tgt := 107) dX8_pieceOf_23 (by have e0 := lv_neT (k := 0) (a := 0) c_23_4 (by decide); have e1 := lv_neT (k := 1) (a := 1) c_23_7 (by decide); have e2 := lv_neT (k := 2) (a := 2) c_23_9 (by decide); have e3 := lv_neT (k := 3) (a := 3) c_23_12 (by decide); omega) (by decide) ?_
            refine K.aload_n (q := 108) dX8_pieceOf_107 rfl rfl ?_
            refine K.iconst (q := 109) (v := 2) dX8_pieceOf_108 rfl (by decide) ?_
            obtain ⟨v18, X18, h9_18, h⟩ := bnd2_inv h
            refine K.callV0 (q := 112) mkX8_fails mw_X8_98 (s_X8_fails _ _ h9_18) rfl (by decide) rfl (lt141 (by decide)) rx131 (Nat.le_of_ble_eq_true rfl) (Nat.le_of_ble_eq_true rfl) (Nat.le_of_ble_eq_true rfl) dX8_pieceOf_109 rfl ?_
            obtain ⟨e_vo, e_Xo⟩ := ret2_inv h
            exact C.iret rfl rfl (congrArg (fun z => Sum.inl (some (Value.int z))) e_vo.symm) (congrArg mkH e_Xo) (Nat.le_of_ble_eq_true rfl) (Nat.le_of_ble_eq_true rfl) dX8_pieceOf_112
  · rw [if_pos c_7_2] at h
    refine K.aload_n (q := 11) dX8_pieceOf_10 rfl rfl ?_
    refine K.iconst (q := 12) (v := 1) dX8_pieceOf_11 rfl (by decide) ?_
    obtain ⟨v19, X19, h9_19, h⟩ := bnd2_inv h
    refine K.callV0 (q := 15) mkX8_fails mw_X8_98 (s_X8_fails _ _ h9_19) rfl (by decide) rfl (lt141 (by decide)) rx131 (Nat.le_of_ble_eq_true rfl) (Nat.le_of_ble_eq_true rfl) (Nat.le_of_ble_eq_true rfl) dX8_pieceOf_12 rfl ?_
    obtain ⟨e_vo, e_Xo⟩ := ret2_inv h
    exact C.iret rfl rfl (congrArg (fun z => Sum.inl (some (Value.int z))) e_vo.symm) (congrArg mkH e_Xo) (Nat.le_of_ble_eq_true rfl) (Nat.le_of_ble_eq_true rfl) dX8_pieceOf_15

def lp_X8_freeOf_4 (X : GS) (size : Int32) : Nat → Nat → Int32 → Option (Int32)
  | 0, _, a2_4 => some a2_4
  | j4 + 1, i4, a2_4 => (bnd1 (m_X8_isFreeAt X (nI i4)) fun (v3 : Int32) => (if v3 = 0 then (lp_X8_freeOf_4 X size j4 (i4 + 1) (a2_4 + 0)) else (if ((X.2.2.1 5) i4) = size then (lp_X8_freeOf_4 X size j4 (i4 + 1) (a2_4 + 1)) else (lp_X8_freeOf_4 X size j4 (i4 + 1) (a2_4 + 0)))))

def m_X8_freeOf (X : GS) (size : Int32) : Option (Int32) := (bnd1 (lp_X8_freeOf_4 X size 64 0 0) fun (a2_4_6 : Int32) => (some a2_4_6))
set_option maxRecDepth 20000 in
set_option maxHeartbeats 1000000 in
theorem s_X8_freeOf (X : GS) (size : Int32) {vo : Int32} (h : m_X8_freeOf X size = some vo) : Ct 3 0 0 yX8_freeOf (.code yX8_freeOf cX8_freeOf 4 (some (.int))) [.ref 131, .int size] (mkH X) (.inl (some (.int vo))) (mkH X) := by
  refine Ct.of (LL := [some (.ref 131), some (.int size), none, none]) mkX8_freeOf.1 owX8_freeOf rfl (Nat.le_of_ble_eq_true rfl) rfl (fun Wk C => ?_)
  have K := C.core
  rw [m_X8_freeOf] at h
  refine K.iconst (q := 1) (v := 0) dX8_freeOf_0 rfl (by decide) ?_
  refine K.istore_n (q := 2) (i := 2) dX8_freeOf_1 rfl rfl (by decide) rfl ?_
  refine K.iconst (q := 3) (v := 0) dX8_freeOf_2 rfl (by decide) ?_
  refine K.istore_n (q := 4) (i := 3) dX8_freeOf_3 rfl rfl (by decide) rfl ?_
  have L4 : ∀ (j4 i4 : Nat) (a2_4 : Int32) (a2_4r : Int32), i4 + j4 = 64 → lp_X8_freeOf_4 X size j4 i4 a2_4 = some a2_4r → (Wk 0 0 42 [some (.ref 131), some (.int size), some (.int a2_4r), none] [] (mkH X)) → Wk 0 0 4 [some (.ref 131), some (.int size), some (.int a2_4), some (.int (nI i4))] [] (mkH X) := by
    intro j4
    induction j4 with
    | zero =>
      intro i4 a2_4 a2_4r hij h hx
      rw [lp_X8_freeOf_4] at h
      refine K.iload_n (q := 5) dX8_freeOf_4 rfl rfl ?_
      refine K.bipush (q := 7) (v := 64) dX8_freeOf_5 rfl (by decide) ?_
      refine K.icmp_ge (q := 10) (tgt := 42) dX8_freeOf_7 rfl (by decide) (fun _ => ?_) (fun z => absurd z (not_not_intro (nI_le (a := 64) (b := i4) (by omega) (by omega))))
      refine K.drop 3 ?_
      obtain q0 := ret1_inv h
      subst q0
      exact hx
    | succ j4 ih =>
      intro i4 a2_4 a2_4r hij h hx
      rw [lp_X8_freeOf_4] at h
      refine K.iload_n (q := 5) dX8_freeOf_4 rfl rfl ?_
      refine K.bipush (q := 7) (v := 64) dX8_freeOf_5 rfl (by decide) ?_
      refine K.icmp_ge (q := 10) (tgt := 42) dX8_freeOf_7 rfl (by decide) (fun z => absurd z (nI_ge (a := i4) (b := 64) (by omega) (by omega))) (fun _ => ?_)
      refine K.iload_n (q := 11) dX8_freeOf_10 rfl rfl ?_
      refine K.aload_n (q := 12) dX8_freeOf_11 rfl rfl ?_
      refine K.iload_n (q := 13) dX8_freeOf_12 rfl rfl ?_
      obtain ⟨v3, h9_3, h⟩ := bnd1_inv h
      refine K.callV0 (q := 16) mkX8_isFreeAt mw_X8_64 (s_X8_isFreeAt _ _ h9_3) rfl (by decide) rfl (lt141 (by decide)) rx131 (Nat.le_of_ble_eq_true rfl) (Nat.le_of_ble_eq_true rfl) (Nat.le_of_ble_eq_true rfl) dX8_freeOf_13 rfl ?_
      refine K.if_eq (q := 19) (tgt := 33) dX8_freeOf_16 rfl (by decide) (fun c_16_4 => ?_) (fun c_16_4 => ?_)
      · rw [if_pos c_16_4] at h
        refine K.iconst (q := 34) (v := 0) dX8_freeOf_33 rfl (by decide) ?_
        refine K.iadd (q := 35) dX8_freeOf_34 rfl ?_
        refine K.istore_n (q := 36) (i := 2) dX8_freeOf_35 rfl rfl (by decide) rfl ?_
        refine K.iinc (q := 39) (v := (nI (i4 + 1))) dX8_freeOf_36 rfl rfl (nI_1 _) (by decide) rfl ?_
        refine K.goto (tgt := 4) dX8_freeOf_39 (by decide) ?_
        exact ih (i4 + 1) (a2_4 + 0) _ (by omega) h hx
      · rw [if_neg c_16_4] at h
        refine K.aload_n (q := 20) dX8_freeOf_19 rfl rfl ?_
        refine K.getf (q := 23) (v := .ref 132) fo_X8_7.r rx131 (lt141 (by decide)) rfl dX8_freeOf_20 rfl ?_
        refine K.iload_n (q := 24) dX8_freeOf_23 rfl rfl ?_
        refine K.ial (q := 25) (f := (X.2.2.1 5)) (m := i4) rx132 (lt141 (by decide)) rfl (by omega) (by decide) dX8_freeOf_24 rfl ?_
        refine K.iload_n (q := 26) dX8_freeOf_25 rfl rfl ?_
        refine K.icmp_ne (q := 29) (tgt := 33) dX8_freeOf_26 rfl (by decide) (fun c_26_5 => ?_) (fun c_26_5 => ?_)
        · rw [if_neg c_26_5] at h
          refine K.iconst (q := 34) (v := 0) dX8_freeOf_33 rfl (by decide) ?_
          refine K.iadd (q := 35) dX8_freeOf_34 rfl ?_
          refine K.istore_n (q := 36) (i := 2) dX8_freeOf_35 rfl rfl (by decide) rfl ?_
          refine K.iinc (q := 39) (v := (nI (i4 + 1))) dX8_freeOf_36 rfl rfl (nI_1 _) (by decide) rfl ?_
          refine K.goto (tgt := 4) dX8_freeOf_39 (by decide) ?_
          exact ih (i4 + 1) (a2_4 + 0) _ (by omega) h hx
        · rw [if_pos c_26_5] at h
          refine K.iconst (q := 30) (v := 1) dX8_freeOf_29 rfl (by decide) ?_
          refine K.goto (tgt := 34) dX8_freeOf_30 (by decide) ?_
          refine K.iadd (q := 35) dX8_freeOf_34 rfl ?_
          refine K.istore_n (q := 36) (i := 2) dX8_freeOf_35 rfl rfl (by decide) rfl ?_
          refine K.iinc (q := 39) (v := (nI (i4 + 1))) dX8_freeOf_36 rfl rfl (nI_1 _) (by decide) rfl ?_
          refine K.goto (tgt := 4) dX8_freeOf_39 (by decide) ?_
          exact ih (i4 + 1) (a2_4 + 1) _ (by omega) h hx
  obtain ⟨a2_4_6, h9_6, h⟩ := bnd1_inv h
  refine L4 64 0 0 _ (by omega) h9_6 ?_
  refine K.iload_n (q := 43) dX8_freeOf_42 rfl rfl ?_
  obtain e_vo := ret1_inv h
  exact C.iret rfl rfl (congrArg (fun z => Sum.inl (some (Value.int z))) e_vo.symm) rfl (Nat.le_of_ble_eq_true rfl) (Nat.le_of_ble_eq_true rfl) dX8_freeOf_43

def m_X8_free (X : GS) (size : Int32) : Option (Int32 × GS) := (bnd1 (m_X8_isAmount size) fun (v1 : Int32) => (if v1 = 0 then (bnd2 (m_X8_fails X 1) fun (v3 : Int32) (X3 : GS) => (some (v3, X3))) else (bnd1 (m_X8_need size) fun (v4 : Int32) => (if v4 = size then (bnd1 (m_X8_freeOf X size) fun (v7 : Int32) => (bnd2 (m_X8_done X v7) fun (v8 : Int32) (X8 : GS) => (some (v8, X8)))) else (bnd2 (m_X8_fails X 1) fun (v6 : Int32) (X6 : GS) => (some (v6, X6)))))))
set_option maxRecDepth 20000 in
set_option maxHeartbeats 1000000 in
theorem s_X8_free (X : GS) (size : Int32) (isAgain : Int32) {vo : Int32} {Xo : GS} (h : m_X8_free X size = some (vo, Xo)) : Ct 4 0 0 yX8_free (.code yX8_free cX8_free 3 (some (.int))) [.ref 131, .int size, .int isAgain] (mkH X) (.inl (some (.int vo))) (mkH Xo) := by
  refine Ct.of (LL := [some (.ref 131), some (.int size), some (.int isAgain)]) mkX8_free.1 owX8_free rfl (Nat.le_of_ble_eq_true rfl) rfl (fun Wk C => ?_)
  have K := C.core
  rw [m_X8_free] at h
  refine K.iload_n (q := 1) dX8_free_0 rfl rfl ?_
  obtain ⟨v1, h9_1, h⟩ := bnd1_inv h
  refine K.callS0 (q := 4) mkX8_isAmount mw_X8_95 (s_X8_isAmount _ _ h9_1) rfl (by decide) rfl (Nat.le_of_ble_eq_true rfl) (Nat.le_of_ble_eq_true rfl) (Nat.le_of_ble_eq_true rfl) dX8_free_1 rfl ?_
  refine K.if_eq (q := 7) (tgt := 27) dX8_free_4 rfl (by decide) (fun c_4_2 => ?_) (fun c_4_2 => ?_)
  · rw [if_pos c_4_2] at h
    refine K.aload_n (q := 28) dX8_free_27 rfl rfl ?_
    refine K.iconst (q := 29) (v := 1) dX8_free_28 rfl (by decide) ?_
    obtain ⟨v3, X3, h9_3, h⟩ := bnd2_inv h
    refine K.callV0 (q := 32) mkX8_fails mw_X8_98 (s_X8_fails _ _ h9_3) rfl (by decide) rfl (lt141 (by decide)) rx131 (Nat.le_of_ble_eq_true rfl) (Nat.le_of_ble_eq_true rfl) (Nat.le_of_ble_eq_true rfl) dX8_free_29 rfl ?_
    obtain ⟨e_vo, e_Xo⟩ := ret2_inv h
    exact C.iret rfl rfl (congrArg (fun z => Sum.inl (some (Value.int z))) e_vo.symm) (congrArg mkH e_Xo) (Nat.le_of_ble_eq_true rfl) (Nat.le_of_ble_eq_true rfl) dX8_free_32
  · rw [if_neg c_4_2] at h
    refine K.iload_n (q := 8) dX8_free_7 rfl rfl ?_
    obtain ⟨v4, h9_4, h⟩ := bnd1_inv h
    refine K.callS0 (q := 11) mkX8_need mw_X8_72 (s_X8_need _ _ h9_4) rfl (by decide) rfl (Nat.le_of_ble_eq_true rfl) (Nat.le_of_ble_eq_true rfl) (Nat.le_of_ble_eq_true rfl) dX8_free_8 rfl ?_
    refine K.iload_n (q := 12) dX8_free_11 rfl rfl ?_
    refine K.icmp_ne (q := 15) (tgt := 27) dX8_free_12 rfl (by decide) (fun c_12_5 => ?_) (fun c_12_5 => ?_)
    · rw [if_neg c_12_5] at h
      refine K.aload_n (q := 28) dX8_free_27 rfl rfl ?_
      refine K.iconst (q := 29) (v := 1) dX8_free_28 rfl (by decide) ?_
      obtain ⟨v6, X6, h9_6, h⟩ := bnd2_inv h
      refine K.callV0 (q := 32) mkX8_fails mw_X8_98 (s_X8_fails _ _ h9_6) rfl (by decide) rfl (lt141 (by decide)) rx131 (Nat.le_of_ble_eq_true rfl) (Nat.le_of_ble_eq_true rfl) (Nat.le_of_ble_eq_true rfl) dX8_free_29 rfl ?_
      obtain ⟨e_vo, e_Xo⟩ := ret2_inv h
      exact C.iret rfl rfl (congrArg (fun z => Sum.inl (some (Value.int z))) e_vo.symm) (congrArg mkH e_Xo) (Nat.le_of_ble_eq_true rfl) (Nat.le_of_ble_eq_true rfl) dX8_free_32
    · rw [if_pos c_12_5] at h
      refine K.aload_n (q := 16) dX8_free_15 rfl rfl ?_
      refine K.aload_n (q := 17) dX8_free_16 rfl rfl ?_
      refine K.iload_n (q := 18) dX8_free_17 rfl rfl ?_
      obtain ⟨v7, h9_7, h⟩ := bnd1_inv h
      refine K.callV0 (q := 21) mkX8_freeOf mw_X8_166 (s_X8_freeOf _ _ h9_7) rfl (by decide) rfl (lt141 (by decide)) rx131 (Nat.le_of_ble_eq_true rfl) (Nat.le_of_ble_eq_true rfl) (Nat.le_of_ble_eq_true rfl) dX8_free_18 rfl ?_
      obtain ⟨v8, X8, h9_8, h⟩ := bnd2_inv h
      refine K.callV0 (q := 24) mkX8_done mw_X8_105 (s_X8_done _ _ h9_8) rfl (by decide) rfl (lt141 (by decide)) rx131 (Nat.le_of_ble_eq_true rfl) (Nat.le_of_ble_eq_true rfl) (Nat.le_of_ble_eq_true rfl) dX8_free_21 rfl ?_
      refine K.goto (tgt := 32) dX8_free_24 (by decide) ?_
      obtain ⟨e_vo, e_Xo⟩ := ret2_inv h
      exact C.iret rfl rfl (congrArg (fun z => Sum.inl (some (Value.int z))) e_vo.symm) (congrArg mkH e_Xo) (Nat.le_of_ble_eq_true rfl) (Nat.le_of_ble_eq_true rfl) dX8_free_32

def m_X8_greatest (X : GS) : Option (Int32 × GS) := (bnd1 (m_X8_greatestFree X) fun (v1 : Int32) => (if v1 = 0 then (bnd2 (m_X8_fails X 1) fun (v5 : Int32) (X5 : GS) => (some (v5, X5))) else (bnd1 (m_X8_greatestFree X) fun (v3 : Int32) => (bnd2 (m_X8_done X v3) fun (v4 : Int32) (X4 : GS) => (some (v4, X4))))))
set_option maxRecDepth 20000 in
set_option maxHeartbeats 1000000 in
theorem s_X8_greatest (X : GS) {vo : Int32} {Xo : GS} (h : m_X8_greatest X = some (vo, Xo)) : Ct 4 0 0 yX8_greatest (.code yX8_greatest cX8_greatest 1 (some (.int))) [.ref 131] (mkH X) (.inl (some (.int vo))) (mkH Xo) := by
  refine Ct.of (LL := [some (.ref 131)]) mkX8_greatest.1 owX8_greatest rfl (Nat.le_of_ble_eq_true rfl) rfl (fun Wk C => ?_)
  have K := C.core
  rw [m_X8_greatest] at h
  refine K.aload_n (q := 1) dX8_greatest_0 rfl rfl ?_
  obtain ⟨v1, h9_1, h⟩ := bnd1_inv h
  refine K.callV0 (q := 4) mkX8_greatestFree mw_X8_108 (s_X8_greatestFree _ h9_1) rfl (by decide) rfl (lt141 (by decide)) rx131 (Nat.le_of_ble_eq_true rfl) (Nat.le_of_ble_eq_true rfl) (Nat.le_of_ble_eq_true rfl) dX8_greatest_1 rfl ?_
  refine K.if_ne (q := 7) (tgt := 15) dX8_greatest_4 rfl (by decide) (fun c_4_2 => ?_) (fun c_4_2 => ?_)
  · rw [if_neg c_4_2] at h
    refine K.aload_n (q := 16) dX8_greatest_15 rfl rfl ?_
    refine K.aload_n (q := 17) dX8_greatest_16 rfl rfl ?_
    obtain ⟨v3, h9_3, h⟩ := bnd1_inv h
    refine K.callV0 (q := 20) mkX8_greatestFree mw_X8_108 (s_X8_greatestFree _ h9_3) rfl (by decide) rfl (lt141 (by decide)) rx131 (Nat.le_of_ble_eq_true rfl) (Nat.le_of_ble_eq_true rfl) (Nat.le_of_ble_eq_true rfl) dX8_greatest_17 rfl ?_
    obtain ⟨v4, X4, h9_4, h⟩ := bnd2_inv h
    refine K.callV0 (q := 23) mkX8_done mw_X8_105 (s_X8_done _ _ h9_4) rfl (by decide) rfl (lt141 (by decide)) rx131 (Nat.le_of_ble_eq_true rfl) (Nat.le_of_ble_eq_true rfl) (Nat.le_of_ble_eq_true rfl) dX8_greatest_20 rfl ?_
    obtain ⟨e_vo, e_Xo⟩ := ret2_inv h
    exact C.iret rfl rfl (congrArg (fun z => Sum.inl (some (Value.int z))) e_vo.symm) (congrArg mkH e_Xo) (Nat.le_of_ble_eq_true rfl) (Nat.le_of_ble_eq_true rfl) dX8_greatest_23
  · rw [if_pos c_4_2] at h
    refine K.aload_n (q := 8) dX8_greatest_7 rfl rfl ?_
    refine K.iconst (q := 9) (v := 1) dX8_greatest_8 rfl (by decide) ?_
    obtain ⟨v5, X5, h9_5, h⟩ := bnd2_inv h
    refine K.callV0 (q := 12) mkX8_fails mw_X8_98 (s_X8_fails _ _ h9_5) rfl (by decide) rfl (lt141 (by decide)) rx131 (Nat.le_of_ble_eq_true rfl) (Nat.le_of_ble_eq_true rfl) (Nat.le_of_ble_eq_true rfl) dX8_greatest_9 rfl ?_
    refine K.goto (tgt := 23) dX8_greatest_12 (by decide) ?_
    obtain ⟨e_vo, e_Xo⟩ := ret2_inv h
    exact C.iret rfl rfl (congrArg (fun z => Sum.inl (some (Value.int z))) e_vo.symm) (congrArg mkH e_Xo) (Nat.le_of_ble_eq_true rfl) (Nat.le_of_ble_eq_true rfl) dX8_greatest_23

def m_X8_would (X : GS) (amount : Int32) : Option (Int32 × GS) := (bnd1 (m_X8_isAmount amount) fun (v1 : Int32) => (if v1 = 0 then (bnd2 (m_X8_fails X 1) fun (v11 : Int32) (X11 : GS) => (some (v11, X11))) else (bnd1 (m_X8_need amount) fun (v3 : Int32) => (bnd1 (m_X8_finds X v3) fun (v4 : Int32) => (if v4 = (-1) then (bnd2 (m_X8_fails X 2) fun (v10 : Int32) (X10 : GS) => (some (v10, X10))) else (if ((X.2.2.1 5) 126) = 1 then (if inR v4 129 then (bnd2 (m_X8_done X ((v4 + ((X.2.2.1 5) (v4.toNatClampNeg))) - v3)) fun (v9 : Int32) (X9 : GS) => (some (v9, X9))) else none) else (bnd2 (m_X8_done X v4) fun (v7 : Int32) (X7 : GS) => (some (v7, X7)))))))))
set_option maxRecDepth 20000 in
set_option maxHeartbeats 1000000 in
theorem s_X8_would (X : GS) (amount : Int32) {vo : Int32} {Xo : GS} (h : m_X8_would X amount = some (vo, Xo)) : Ct 4 0 0 yX8_would (.code yX8_would cX8_would 4 (some (.int))) [.ref 131, .int amount] (mkH X) (.inl (some (.int vo))) (mkH Xo) := by
  refine Ct.of (LL := [some (.ref 131), some (.int amount), none, none]) mkX8_would.1 owX8_would rfl (Nat.le_of_ble_eq_true rfl) rfl (fun Wk C => ?_)
  have K := C.core
  rw [m_X8_would] at h
  refine K.iload_n (q := 1) dX8_would_0 rfl rfl ?_
  obtain ⟨v1, h9_1, h⟩ := bnd1_inv h
  refine K.callS0 (q := 4) mkX8_isAmount mw_X8_95 (s_X8_isAmount _ _ h9_1) rfl (by decide) rfl (Nat.le_of_ble_eq_true rfl) (Nat.le_of_ble_eq_true rfl) (Nat.le_of_ble_eq_true rfl) dX8_would_1 rfl ?_
  refine K.if_ne (q := 7) (tgt := 13) dX8_would_4 rfl (by decide) (fun c_4_2 => ?_) (fun c_4_2 => ?_)
  · rw [if_neg c_4_2] at h
    refine K.iload_n (q := 14) dX8_would_13 rfl rfl ?_
    obtain ⟨v3, h9_3, h⟩ := bnd1_inv h
    refine K.callS0 (q := 17) mkX8_need mw_X8_72 (s_X8_need _ _ h9_3) rfl (by decide) rfl (Nat.le_of_ble_eq_true rfl) (Nat.le_of_ble_eq_true rfl) (Nat.le_of_ble_eq_true rfl) dX8_would_14 rfl ?_
    refine K.istore_n (q := 18) (i := 2) dX8_would_17 rfl rfl (by decide) rfl ?_
    refine K.aload_n (q := 19) dX8_would_18 rfl rfl ?_
    refine K.iload_n (q := 20) dX8_would_19 rfl rfl ?_
    obtain ⟨v4, h9_4, h⟩ := bnd1_inv h
    refine K.callV0 (q := 23) mkX8_finds mw_X8_75 (s_X8_finds _ _ h9_4) rfl (by decide) rfl (lt141 (by decide)) rx131 (Nat.le_of_ble_eq_true rfl) (Nat.le_of_ble_eq_true rfl) (Nat.le_of_ble_eq_true rfl) dX8_would_20 rfl ?_
    refine K.istore_n (q := 24) (i := 3) dX8_would_23 rfl rfl (by decide) rfl ?_
    refine K.iload_n (q := 25) dX8_would_24 rfl rfl ?_
    refine K.iconst (q := 26) (v := (-1)) dX8_would_25 rfl (by decide) ?_
    refine K.icmp_ne (q := 29) (tgt := 37) dX8_would_26 rfl (by decide) (fun c_26_5 => ?_) (fun c_26_5 => ?_)
    · rw [if_neg c_26_5] at h
      refine K.aload_n (q := 38) dX8_would_37 rfl rfl ?_
      refine K.aload_n (q := 39) dX8_would_38 rfl rfl ?_
      refine K.getf (q := 42) (v := .ref 132) fo_X8_7.r rx131 (lt141 (by decide)) rfl dX8_would_39 rfl ?_
      refine K.bipush (q := 44) (v := 126) dX8_would_42 rfl (by decide) ?_
      refine K.ial (q := 45) (f := (X.2.2.1 5)) (m := 126) rx132 (lt141 (by decide)) rfl (by decide) (by decide) dX8_would_44 rfl ?_
      refine K.iconst (q := 46) (v := 1) dX8_would_45 rfl (by decide) ?_
      refine K.icmp_ne (q := 49) (tgt := 62) dX8_would_46 rfl (by decide) (fun c_46_6 => ?_) (fun c_46_6 => ?_)
      · rw [if_neg c_46_6] at h
        refine K.iload_n (q := 63) dX8_would_62 rfl rfl ?_
        obtain ⟨v7, X7, h9_7, h⟩ := bnd2_inv h
        refine K.callV0 (q := 66) mkX8_done mw_X8_105 (s_X8_done _ _ h9_7) rfl (by decide) rfl (lt141 (by decide)) rx131 (Nat.le_of_ble_eq_true rfl) (Nat.le_of_ble_eq_true rfl) (Nat.le_of_ble_eq_true rfl) dX8_would_63 rfl ?_
        obtain ⟨e_vo, e_Xo⟩ := ret2_inv h
        exact C.iret rfl rfl (congrArg (fun z => Sum.inl (some (Value.int z))) e_vo.symm) (congrArg mkH e_Xo) (Nat.le_of_ble_eq_true rfl) (Nat.le_of_ble_eq_true rfl) dX8_would_66
      · rw [if_pos c_46_6] at h
        refine K.iload_n (q := 50) dX8_would_49 rfl rfl ?_
        refine K.aload_n (q := 51) dX8_would_50 rfl rfl ?_
        refine K.getf (q := 54) (v := .ref 132) fo_X8_7.r rx131 (lt141 (by decide)) rfl dX8_would_51 rfl ?_
        refine K.iload_n (q := 55) dX8_would_54 rfl rfl ?_
        obtain ⟨k_8, h⟩ := chk_inv h
        refine K.ial (q := 56) (f := (X.2.2.1 5)) (m := (v4.toNatClampNeg)) rx132 (lt141 (by decide)) (cl_nI k_8.1) k_8.2 (by decide) dX8_would_55 rfl ?_
        refine K.iadd (q := 57) dX8_would_56 rfl ?_
        refine K.iload_n (q := 58) dX8_would_57 rfl rfl ?_
        refine K.isub (q := 59) dX8_would_58 rfl ?_
        refine K.goto (tgt := 63) dX8_would_59 (by decide) ?_
        obtain ⟨v9, X9, h9_9, h⟩ := bnd2_inv h
        refine K.callV0 (q := 66) mkX8_done mw_X8_105 (s_X8_done _ _ h9_9) rfl (by decide) rfl (lt141 (by decide)) rx131 (Nat.le_of_ble_eq_true rfl) (Nat.le_of_ble_eq_true rfl) (Nat.le_of_ble_eq_true rfl) dX8_would_63 rfl ?_
        obtain ⟨e_vo, e_Xo⟩ := ret2_inv h
        exact C.iret rfl rfl (congrArg (fun z => Sum.inl (some (Value.int z))) e_vo.symm) (congrArg mkH e_Xo) (Nat.le_of_ble_eq_true rfl) (Nat.le_of_ble_eq_true rfl) dX8_would_66
    · rw [if_pos c_26_5] at h
      refine K.aload_n (q := 30) dX8_would_29 rfl rfl ?_
      refine K.iconst (q := 31) (v := 2) dX8_would_30 rfl (by decide) ?_
      obtain ⟨v10, X10, h9_10, h⟩ := bnd2_inv h
      refine K.callV0 (q := 34) mkX8_fails mw_X8_98 (s_X8_fails _ _ h9_10) rfl (by decide) rfl (lt141 (by decide)) rx131 (Nat.le_of_ble_eq_true rfl) (Nat.le_of_ble_eq_true rfl) (Nat.le_of_ble_eq_true rfl) dX8_would_31 rfl ?_
      refine K.goto (tgt := 66) dX8_would_34 (by decide) ?_
      obtain ⟨e_vo, e_Xo⟩ := ret2_inv h
      exact C.iret rfl rfl (congrArg (fun z => Sum.inl (some (Value.int z))) e_vo.symm) (congrArg mkH e_Xo) (Nat.le_of_ble_eq_true rfl) (Nat.le_of_ble_eq_true rfl) dX8_would_66
  · rw [if_pos c_4_2] at h
    refine K.aload_n (q := 8) dX8_would_7 rfl rfl ?_
    refine K.iconst (q := 9) (v := 1) dX8_would_8 rfl (by decide) ?_
    obtain ⟨v11, X11, h9_11, h⟩ := bnd2_inv h
    refine K.callV0 (q := 12) mkX8_fails mw_X8_98 (s_X8_fails _ _ h9_11) rfl (by decide) rfl (lt141 (by decide)) rx131 (Nat.le_of_ble_eq_true rfl) (Nat.le_of_ble_eq_true rfl) (Nat.le_of_ble_eq_true rfl) dX8_would_9 rfl ?_
    obtain ⟨e_vo, e_Xo⟩ := ret2_inv h
    exact C.iret rfl rfl (congrArg (fun z => Sum.inl (some (Value.int z))) e_vo.symm) (congrArg mkH e_Xo) (Nat.le_of_ble_eq_true rfl) (Nat.le_of_ble_eq_true rfl) dX8_would_12

def lp_X8_cuts_43 (amount : Int32) : Nat → Int32 → Int32 → Option (Int32 × Int32)
  | 0, _, _ => none
  | j43 + 1, a3_43, a4_43 => (bnd1 (m_X8_need amount) fun (v7 : Int32) => (if a4_43 ≤ v7 then (some (a3_43, a4_43)) else (lp_X8_cuts_43 amount j43 (a3_43 + 1) (a4_43 / 2))))

def m_X8_cuts (X : GS) (amount : Int32) : Option (Int32 × GS) := (bnd1 (m_X8_isAmount amount) fun (v1 : Int32) => (if v1 = 0 then (bnd2 (m_X8_fails X 1) fun (v12 : Int32) (X12 : GS) => (some (v12, X12))) else (bnd1 (m_X8_need amount) fun (v3 : Int32) => (bnd1 (m_X8_finds X v3) fun (v4 : Int32) => (if v4 = (-1) then (bnd2 (m_X8_fails X 2) fun (v11 : Int32) (X11 : GS) => (some (v11, X11))) else (if inR v4 129 then (bnd2 (lp_X8_cuts_43 amount 1000 0 ((X.2.2.1 5) (v4.toNatClampNeg))) fun (a3_43_9 : Int32) (a4_43_9 : Int32) => (bnd2 (m_X8_done X a3_43_9) fun (v10 : Int32) (X10 : GS) => (some (v10, X10)))) else none))))))
set_option maxRecDepth 20000 in
set_option maxHeartbeats 1000000 in
theorem s_X8_cuts (X : GS) (amount : Int32) {vo : Int32} {Xo : GS} (h : m_X8_cuts X amount = some (vo, Xo)) : Ct 4 0 0 yX8_cuts (.code yX8_cuts cX8_cuts 5 (some (.int))) [.ref 131, .int amount] (mkH X) (.inl (some (.int vo))) (mkH Xo) := by
  refine Ct.of (LL := [some (.ref 131), some (.int amount), none, none, none]) mkX8_cuts.1 owX8_cuts rfl (Nat.le_of_ble_eq_true rfl) rfl (fun Wk C => ?_)
  have K := C.core
  rw [m_X8_cuts] at h
  refine K.iload_n (q := 1) dX8_cuts_0 rfl rfl ?_
  obtain ⟨v1, h9_1, h⟩ := bnd1_inv h
  refine K.callS0 (q := 4) mkX8_isAmount mw_X8_95 (s_X8_isAmount _ _ h9_1) rfl (by decide) rfl (Nat.le_of_ble_eq_true rfl) (Nat.le_of_ble_eq_true rfl) (Nat.le_of_ble_eq_true rfl) dX8_cuts_1 rfl ?_
  refine K.if_ne (q := 7) (tgt := 13) dX8_cuts_4 rfl (by decide) (fun c_4_2 => ?_) (fun c_4_2 => ?_)
  · rw [if_neg c_4_2] at h
    refine K.aload_n (q := 14) dX8_cuts_13 rfl rfl ?_
    refine K.iload_n (q := 15) dX8_cuts_14 rfl rfl ?_
    obtain ⟨v3, h9_3, h⟩ := bnd1_inv h
    refine K.callS0 (q := 18) mkX8_need mw_X8_72 (s_X8_need _ _ h9_3) rfl (by decide) rfl (Nat.le_of_ble_eq_true rfl) (Nat.le_of_ble_eq_true rfl) (Nat.le_of_ble_eq_true rfl) dX8_cuts_15 rfl ?_
    obtain ⟨v4, h9_4, h⟩ := bnd1_inv h
    refine K.callV0 (q := 21) mkX8_finds mw_X8_75 (s_X8_finds _ _ h9_4) rfl (by decide) rfl (lt141 (by decide)) rx131 (Nat.le_of_ble_eq_true rfl) (Nat.le_of_ble_eq_true rfl) (Nat.le_of_ble_eq_true rfl) dX8_cuts_18 rfl ?_
    refine K.istore_n (q := 22) (i := 2) dX8_cuts_21 rfl rfl (by decide) rfl ?_
    refine K.iload_n (q := 23) dX8_cuts_22 rfl rfl ?_
    refine K.iconst (q := 24) (v := (-1)) dX8_cuts_23 rfl (by decide) ?_
    refine K.icmp_ne (q := 27) (tgt := 33) dX8_cuts_24 rfl (by decide) (fun c_24_5 => ?_) (fun c_24_5 => ?_)
    · rw [if_neg c_24_5] at h
      refine K.iconst (q := 34) (v := 0) dX8_cuts_33 rfl (by decide) ?_
      refine K.istore_n (q := 35) (i := 3) dX8_cuts_34 rfl rfl (by decide) rfl ?_
      refine K.aload_n (q := 36) dX8_cuts_35 rfl rfl ?_
      refine K.getf (q := 39) (v := .ref 132) fo_X8_7.r rx131 (lt141 (by decide)) rfl dX8_cuts_36 rfl ?_
      refine K.iload_n (q := 40) dX8_cuts_39 rfl rfl ?_
      obtain ⟨k_6, h⟩ := chk_inv h
      refine K.ial (q := 41) (f := (X.2.2.1 5)) (m := (v4.toNatClampNeg)) rx132 (lt141 (by decide)) (cl_nI k_6.1) k_6.2 (by decide) dX8_cuts_40 rfl ?_
      refine K.istore (q := 43) dX8_cuts_41 rfl (by decide) rfl ?_
      have L43 : ∀ (j43 : Nat) (a3_43 : Int32) (a4_43 : Int32) (a3_43r : Int32) (a4_43r : Int32), lp_X8_cuts_43 amount j43 a3_43 a4_43 = some (a3_43r, a4_43r) → (Wk 0 0 64 [some (.ref 131), some (.int amount), some (.int v4), some (.int a3_43r), some (.int a4_43r)] [] (mkH X)) → Wk 0 0 43 [some (.ref 131), some (.int amount), some (.int v4), some (.int a3_43), some (.int a4_43)] [] (mkH X) := by
        intro j43
        induction j43 with
        | zero =>
          intro a3_43 a4_43 a3_43r a4_43r h hx
          rw [lp_X8_cuts_43] at h
          cases h
        | succ j43 ih =>
          intro a3_43 a4_43 a3_43r a4_43r h hx
          rw [lp_X8_cuts_43] at h
          refine K.iload (q := 45) dX8_cuts_43 rfl rfl ?_
          refine K.iload_n (q := 46) dX8_cuts_45 rfl rfl ?_
          obtain ⟨v7, h9_7, h⟩ := bnd1_inv h
          refine K.callS0 (q := 49) mkX8_need mw_X8_72 (s_X8_need _ _ h9_7) rfl (by decide) rfl (Nat.le_of_ble_eq_true rfl) (Nat.le_of_ble_eq_true rfl) (Nat.le_of_ble_eq_true rfl) dX8_cuts_46 rfl ?_
          refine K.icmp_le (q := 52) (tgt := 64) dX8_cuts_49 rfl (by decide) (fun c_49_8 => ?_) (fun c_49_8 => ?_)
          · rw [if_pos c_49_8] at h
            obtain ⟨q0, q1⟩ := ret2_inv h
            subst q0; subst q1
            exact hx
          · rw [if_neg c_49_8] at h
            refine K.iinc (q := 55) (v := (a3_43 + 1)) dX8_cuts_52 rfl rfl rfl (by decide) rfl ?_
            refine K.iload (q := 57) dX8_cuts_55 rfl rfl ?_
            refine K.iconst (q := 58) (v := 2) dX8_cuts_57 rfl (by decide) ?_
            refine K.idiv (q := 59) dX8_cuts_58 rfl (by decide) ?_
            refine K.istore (q := 61) dX8_cuts_59 rfl (by decide) rfl ?_
            refine K.goto (tgt := 43) dX8_cuts_61 (by decide) ?_
            exact ih (a3_43 + 1) (a4_43 / 2) _ _ h hx
      obtain ⟨a3_43_9, a4_43_9, h9_9, h⟩ := bnd2_inv h
      refine L43 1000 0 ((X.2.2.1 5) (v4.toNatClampNeg)) _ _ h9_9 ?_
      refine K.aload_n (q := 65) dX8_cuts_64 rfl rfl ?_
      refine K.iload_n (q := 66) dX8_cuts_65 rfl rfl ?_
      obtain ⟨v10, X10, h9_10, h⟩ := bnd2_inv h
      refine K.callV0 (q := 69) mkX8_done mw_X8_105 (s_X8_done _ _ h9_10) rfl (by decide) rfl (lt141 (by decide)) rx131 (Nat.le_of_ble_eq_true rfl) (Nat.le_of_ble_eq_true rfl) (Nat.le_of_ble_eq_true rfl) dX8_cuts_66 rfl ?_
      obtain ⟨e_vo, e_Xo⟩ := ret2_inv h
      exact C.iret rfl rfl (congrArg (fun z => Sum.inl (some (Value.int z))) e_vo.symm) (congrArg mkH e_Xo) (Nat.le_of_ble_eq_true rfl) (Nat.le_of_ble_eq_true rfl) dX8_cuts_69
    · rw [if_pos c_24_5] at h
      refine K.aload_n (q := 28) dX8_cuts_27 rfl rfl ?_
      refine K.iconst (q := 29) (v := 2) dX8_cuts_28 rfl (by decide) ?_
      obtain ⟨v11, X11, h9_11, h⟩ := bnd2_inv h
      refine K.callV0 (q := 32) mkX8_fails mw_X8_98 (s_X8_fails _ _ h9_11) rfl (by decide) rfl (lt141 (by decide)) rx131 (Nat.le_of_ble_eq_true rfl) (Nat.le_of_ble_eq_true rfl) (Nat.le_of_ble_eq_true rfl) dX8_cuts_29 rfl ?_
      obtain ⟨e_vo, e_Xo⟩ := ret2_inv h
      exact C.iret rfl rfl (congrArg (fun z => Sum.inl (some (Value.int z))) e_vo.symm) (congrArg mkH e_Xo) (Nat.le_of_ble_eq_true rfl) (Nat.le_of_ble_eq_true rfl) dX8_cuts_32
  · rw [if_pos c_4_2] at h
    refine K.aload_n (q := 8) dX8_cuts_7 rfl rfl ?_
    refine K.iconst (q := 9) (v := 1) dX8_cuts_8 rfl (by decide) ?_
    obtain ⟨v12, X12, h9_12, h⟩ := bnd2_inv h
    refine K.callV0 (q := 12) mkX8_fails mw_X8_98 (s_X8_fails _ _ h9_12) rfl (by decide) rfl (lt141 (by decide)) rx131 (Nat.le_of_ble_eq_true rfl) (Nat.le_of_ble_eq_true rfl) (Nat.le_of_ble_eq_true rfl) dX8_cuts_9 rfl ?_
    obtain ⟨e_vo, e_Xo⟩ := ret2_inv h
    exact C.iret rfl rfl (congrArg (fun z => Sum.inl (some (Value.int z))) e_vo.symm) (congrArg mkH e_Xo) (Nat.le_of_ble_eq_true rfl) (Nat.le_of_ble_eq_true rfl) dX8_cuts_12

def lp_X8_fits_17 (X : GS) (amount : Int32) : Nat → Nat → Int32 → Option (Int32)
  | 0, _, a2_17 => some a2_17
  | j17 + 1, i17, a2_17 => (bnd1 (m_X8_isFreeAt X (nI i17)) fun (v5 : Int32) => (if v5 = 0 then (lp_X8_fits_17 X amount j17 (i17 + 1) (a2_17 + 0)) else (bnd1 (m_X8_need amount) fun (v7 : Int32) => (if ¬ v7 = 0 then (lp_X8_fits_17 X amount j17 (i17 + 1) (a2_17 + (((X.2.2.1 5) i17) / v7))) else none))))

def m_X8_fits (X : GS) (amount : Int32) : Option (Int32 × GS) := (bnd1 (m_X8_isAmount amount) fun (v1 : Int32) => (if v1 = 0 then (bnd2 (m_X8_fails X 1) fun (v11 : Int32) (X11 : GS) => (some (v11, X11))) else (bnd1 (lp_X8_fits_17 X amount 64 0 0) fun (a2_17_9 : Int32) => (bnd2 (m_X8_done X a2_17_9) fun (v10 : Int32) (X10 : GS) => (some (v10, X10))))))
set_option maxRecDepth 20000 in
set_option maxHeartbeats 1000000 in
theorem s_X8_fits (X : GS) (amount : Int32) {vo : Int32} {Xo : GS} (h : m_X8_fits X amount = some (vo, Xo)) : Ct 3 0 0 yX8_fits (.code yX8_fits cX8_fits 4 (some (.int))) [.ref 131, .int amount] (mkH X) (.inl (some (.int vo))) (mkH Xo) := by
  refine Ct.of (LL := [some (.ref 131), some (.int amount), none, none]) mkX8_fits.1 owX8_fits rfl (Nat.le_of_ble_eq_true rfl) rfl (fun Wk C => ?_)
  have K := C.core
  rw [m_X8_fits] at h
  refine K.iload_n (q := 1) dX8_fits_0 rfl rfl ?_
  obtain ⟨v1, h9_1, h⟩ := bnd1_inv h
  refine K.callS0 (q := 4) mkX8_isAmount mw_X8_95 (s_X8_isAmount _ _ h9_1) rfl (by decide) rfl (Nat.le_of_ble_eq_true rfl) (Nat.le_of_ble_eq_true rfl) (Nat.le_of_ble_eq_true rfl) dX8_fits_1 rfl ?_
  refine K.if_ne (q := 7) (tgt := 13) dX8_fits_4 rfl (by decide) (fun c_4_2 => ?_) (fun c_4_2 => ?_)
  · rw [if_neg c_4_2] at h
    refine K.iconst (q := 14) (v := 0) dX8_fits_13 rfl (by decide) ?_
    refine K.istore_n (q := 15) (i := 2) dX8_fits_14 rfl rfl (by decide) rfl ?_
    refine K.iconst (q := 16) (v := 0) dX8_fits_15 rfl (by decide) ?_
    refine K.istore_n (q := 17) (i := 3) dX8_fits_16 rfl rfl (by decide) rfl ?_
    have L17 : ∀ (j17 i17 : Nat) (a2_17 : Int32) (a2_17r : Int32), i17 + j17 = 64 → lp_X8_fits_17 X amount j17 i17 a2_17 = some a2_17r → (Wk 0 0 55 [some (.ref 131), some (.int amount), some (.int a2_17r), none] [] (mkH X)) → Wk 0 0 17 [some (.ref 131), some (.int amount), some (.int a2_17), some (.int (nI i17))] [] (mkH X) := by
      intro j17
      induction j17 with
      | zero =>
        intro i17 a2_17 a2_17r hij h hx
        rw [lp_X8_fits_17] at h
        refine K.iload_n (q := 18) dX8_fits_17 rfl rfl ?_
        refine K.bipush (q := 20) (v := 64) dX8_fits_18 rfl (by decide) ?_
        refine K.icmp_ge (q := 23) (tgt := 55) dX8_fits_20 rfl (by decide) (fun _ => ?_) (fun z => absurd z (not_not_intro (nI_le (a := 64) (b := i17) (by omega) (by omega))))
        refine K.drop 3 ?_
        obtain q0 := ret1_inv h
        subst q0
        exact hx
      | succ j17 ih =>
        intro i17 a2_17 a2_17r hij h hx
        rw [lp_X8_fits_17] at h
        refine K.iload_n (q := 18) dX8_fits_17 rfl rfl ?_
        refine K.bipush (q := 20) (v := 64) dX8_fits_18 rfl (by decide) ?_
        refine K.icmp_ge (q := 23) (tgt := 55) dX8_fits_20 rfl (by decide) (fun z => absurd z (nI_ge (a := i17) (b := 64) (by omega) (by omega))) (fun _ => ?_)
        refine K.iload_n (q := 24) dX8_fits_23 rfl rfl ?_
        refine K.aload_n (q := 25) dX8_fits_24 rfl rfl ?_
        refine K.iload_n (q := 26) dX8_fits_25 rfl rfl ?_
        obtain ⟨v5, h9_5, h⟩ := bnd1_inv h
        refine K.callV0 (q := 29) mkX8_isFreeAt mw_X8_64 (s_X8_isFreeAt _ _ h9_5) rfl (by decide) rfl (lt141 (by decide)) rx131 (Nat.le_of_ble_eq_true rfl) (Nat.le_of_ble_eq_true rfl) (Nat.le_of_ble_eq_true rfl) dX8_fits_26 rfl ?_
        refine K.if_eq (q := 32) (tgt := 46) dX8_fits_29 rfl (by decide) (fun c_29_6 => ?_) (fun c_29_6 => ?_)
        · rw [if_pos c_29_6] at h
          refine K.iconst (q := 47) (v := 0) dX8_fits_46 rfl (by decide) ?_
          refine K.iadd (q := 48) dX8_fits_47 rfl ?_
          refine K.istore_n (q := 49) (i := 2) dX8_fits_48 rfl rfl (by decide) rfl ?_
          refine K.iinc (q := 52) (v := (nI (i17 + 1))) dX8_fits_49 rfl rfl (nI_1 _) (by decide) rfl ?_
          refine K.goto (tgt := 17) dX8_fits_52 (by decide) ?_
          exact ih (i17 + 1) (a2_17 + 0) _ (by omega) h hx
        · rw [if_neg c_29_6] at h
          refine K.aload_n (q := 33) dX8_fits_32 rfl rfl ?_
          refine K.getf (q := 36) (v := .ref 132) fo_X8_7.r rx131 (lt141 (by decide)) rfl dX8_fits_33 rfl ?_
          refine K.iload_n (q := 37) dX8_fits_36 rfl rfl ?_
          refine K.ial (q := 38) (f := (X.2.2.1 5)) (m := i17) rx132 (lt141 (by decide)) rfl (by omega) (by decide) dX8_fits_37 rfl ?_
          refine K.iload_n (q := 39) dX8_fits_38 rfl rfl ?_
          obtain ⟨v7, h9_7, h⟩ := bnd1_inv h
          refine K.callS0 (q := 42) mkX8_need mw_X8_72 (s_X8_need _ _ h9_7) rfl (by decide) rfl (Nat.le_of_ble_eq_true rfl) (Nat.le_of_ble_eq_true rfl) (Nat.le_of_ble_eq_true rfl) dX8_fits_39 rfl ?_
          obtain ⟨k_8, h⟩ := chk_inv h
          refine K.idiv (q := 43) dX8_fits_42 rfl k_8 ?_
          refine K.goto (tgt := 47) dX8_fits_43 (by decide) ?_
          refine K.iadd (q := 48) dX8_fits_47 rfl ?_
          refine K.istore_n (q := 49) (i := 2) dX8_fits_48 rfl rfl (by decide) rfl ?_
          refine K.iinc (q := 52) (v := (nI (i17 + 1))) dX8_fits_49 rfl rfl (nI_1 _) (by decide) rfl ?_
          refine K.goto (tgt := 17) dX8_fits_52 (by decide) ?_
          exact ih (i17 + 1) (a2_17 + (((X.2.2.1 5) i17) / v7)) _ (by omega) h hx
    obtain ⟨a2_17_9, h9_9, h⟩ := bnd1_inv h
    refine L17 64 0 0 _ (by omega) h9_9 ?_
    refine K.aload_n (q := 56) dX8_fits_55 rfl rfl ?_
    refine K.iload_n (q := 57) dX8_fits_56 rfl rfl ?_
    obtain ⟨v10, X10, h9_10, h⟩ := bnd2_inv h
    refine K.callV0 (q := 60) mkX8_done mw_X8_105 (s_X8_done _ _ h9_10) rfl (by decide) rfl (lt141 (by decide)) rx131 (Nat.le_of_ble_eq_true rfl) (Nat.le_of_ble_eq_true rfl) (Nat.le_of_ble_eq_true rfl) dX8_fits_57 rfl ?_
    obtain ⟨e_vo, e_Xo⟩ := ret2_inv h
    exact C.iret rfl rfl (congrArg (fun z => Sum.inl (some (Value.int z))) e_vo.symm) (congrArg mkH e_Xo) (Nat.le_of_ble_eq_true rfl) (Nat.le_of_ble_eq_true rfl) dX8_fits_60
  · rw [if_pos c_4_2] at h
    refine K.aload_n (q := 8) dX8_fits_7 rfl rfl ?_
    refine K.iconst (q := 9) (v := 1) dX8_fits_8 rfl (by decide) ?_
    obtain ⟨v11, X11, h9_11, h⟩ := bnd2_inv h
    refine K.callV0 (q := 12) mkX8_fails mw_X8_98 (s_X8_fails _ _ h9_11) rfl (by decide) rfl (lt141 (by decide)) rx131 (Nat.le_of_ble_eq_true rfl) (Nat.le_of_ble_eq_true rfl) (Nat.le_of_ble_eq_true rfl) dX8_fits_9 rfl ?_
    obtain ⟨e_vo, e_Xo⟩ := ret2_inv h
    exact C.iret rfl rfl (congrArg (fun z => Sum.inl (some (Value.int z))) e_vo.symm) (congrArg mkH e_Xo) (Nat.le_of_ble_eq_true rfl) (Nat.le_of_ble_eq_true rfl) dX8_fits_12

def lp_X8_hole_4 (place : Int32) : Nat → Nat → Int32 → GS → Option (Option Int32 × Int32 × GS)
  | 0, _, a2_4, XX4 => some (none, a2_4, XX4)
  | j4 + 1, i4, a2_4, XX4 => (bnd1 (m_X8_isFreeAt XX4 (nI i4)) fun (v3 : Int32) => (if v3 = 0 then (lp_X8_hole_4 place j4 (i4 + 1) a2_4 XX4) else (if a2_4 = place then (bnd2 (m_X8_done XX4 (nI i4)) fun (v6 : Int32) (X6 : GS) => (some (some v6, a2_4, X6))) else (lp_X8_hole_4 place j4 (i4 + 1) (a2_4 + 1) XX4))))

def m_X8_hole (X : GS) (place : Int32) : Option (Int32 × GS) := (bnd3 (lp_X8_hole_4 place 64 0 0 X) fun (ee4_7 : Option Int32) (a2_4_7 : Int32) (XX4_7 : GS) => (elseE ee4_7 (fun v => some (v, XX4_7)) (bnd2 (m_X8_fails XX4_7 1) fun (v8 : Int32) (X8 : GS) => (some (v8, X8)))))
set_option maxRecDepth 20000 in
set_option maxHeartbeats 1000000 in
theorem s_X8_hole (X : GS) (place : Int32) {vo : Int32} {Xo : GS} (h : m_X8_hole X place = some (vo, Xo)) : Ct 3 0 0 yX8_hole (.code yX8_hole cX8_hole 4 (some (.int))) [.ref 131, .int place] (mkH X) (.inl (some (.int vo))) (mkH Xo) := by
  refine Ct.of (LL := [some (.ref 131), some (.int place), none, none]) mkX8_hole.1 owX8_hole rfl (Nat.le_of_ble_eq_true rfl) rfl (fun Wk C => ?_)
  have K := C.core
  rw [m_X8_hole] at h
  refine K.iconst (q := 1) (v := 0) dX8_hole_0 rfl (by decide) ?_
  refine K.istore_n (q := 2) (i := 2) dX8_hole_1 rfl rfl (by decide) rfl ?_
  refine K.iconst (q := 3) (v := 0) dX8_hole_2 rfl (by decide) ?_
  refine K.istore_n (q := 4) (i := 3) dX8_hole_3 rfl rfl (by decide) rfl ?_
  have L4 : ∀ (j4 i4 : Nat) (a2_4 : Int32) (XX4 : GS) (ee4 : Option Int32) (a2_4r : Int32) (XX4r : GS), i4 + j4 = 64 → lp_X8_hole_4 place j4 i4 a2_4 XX4 = some (ee4, a2_4r, XX4r) → (ee4 = none → Wk 0 0 38 [some (.ref 131), some (.int place), some (.int a2_4r), none] [] (mkH XX4r)) → (∀ v : Int32, ee4 = some v → v = vo ∧ XX4r = Xo) → Wk 0 0 4 [some (.ref 131), some (.int place), some (.int a2_4), some (.int (nI i4))] [] (mkH XX4) := by
    intro j4
    induction j4 with
    | zero =>
      intro i4 a2_4 XX4 ee4 a2_4r XX4r hij h hx hr
      rw [lp_X8_hole_4] at h
      refine K.iload_n (q := 5) dX8_hole_4 rfl rfl ?_
      refine K.bipush (q := 7) (v := 64) dX8_hole_5 rfl (by decide) ?_
      refine K.icmp_ge (q := 10) (tgt := 38) dX8_hole_7 rfl (by decide) (fun _ => ?_) (fun z => absurd z (not_not_intro (nI_le (a := 64) (b := i4) (by omega) (by omega))))
      refine K.drop 3 ?_
      obtain ⟨q0, q1, q2⟩ := ret3_inv h
      subst q0; subst q1; subst q2
      exact hx rfl
    | succ j4 ih =>
      intro i4 a2_4 XX4 ee4 a2_4r XX4r hij h hx hr
      rw [lp_X8_hole_4] at h
      refine K.iload_n (q := 5) dX8_hole_4 rfl rfl ?_
      refine K.bipush (q := 7) (v := 64) dX8_hole_5 rfl (by decide) ?_
      refine K.icmp_ge (q := 10) (tgt := 38) dX8_hole_7 rfl (by decide) (fun z => absurd z (nI_ge (a := i4) (b := 64) (by omega) (by omega))) (fun _ => ?_)
      refine K.aload_n (q := 11) dX8_hole_10 rfl rfl ?_
      refine K.iload_n (q := 12) dX8_hole_11 rfl rfl ?_
      obtain ⟨v3, h9_3, h⟩ := bnd1_inv h
      refine K.callV0 (q := 15) mkX8_isFreeAt mw_X8_64 (s_X8_isFreeAt _ _ h9_3) rfl (by decide) rfl (lt141 (by decide)) rx131 (Nat.le_of_ble_eq_true rfl) (Nat.le_of_ble_eq_true rfl) (Nat.le_of_ble_eq_true rfl) dX8_hole_12 rfl ?_
      refine K.if_eq (q := 18) (tgt := 32) dX8_hole_15 rfl (by decide) (fun c_15_4 => ?_) (fun c_15_4 => ?_)
      · rw [if_pos c_15_4] at h
        refine K.iinc (q := 35) (v := (nI (i4 + 1))) dX8_hole_32 rfl rfl (nI_1 _) (by decide) rfl ?_
        refine K.goto (tgt := 4) dX8_hole_35 (by decide) ?_
        exact ih (i4 + 1) a2_4 XX4 _ _ _ (by omega) h hx hr
      · rw [if_neg c_15_4] at h
        refine K.iload_n (q := 19) dX8_hole_18 rfl rfl ?_
        refine K.iload_n (q := 20) dX8_hole_19 rfl rfl ?_
        refine K.icmp_ne (q := 23) (tgt := 29) dX8_hole_20 rfl (by decide) (fun c_20_5 => ?_) (fun c_20_5 => ?_)
        · rw [if_neg c_20_5] at h
          refine K.iinc (q := 32) (v := (a2_4 + 1)) dX8_hole_29 rfl rfl rfl (by decide) rfl ?_
          refine K.iinc (q := 35) (v := (nI (i4 + 1))) dX8_hole_32 rfl rfl (nI_1 _) (by decide) rfl ?_
          refine K.goto (tgt := 4) dX8_hole_35 (by decide) ?_
          exact ih (i4 + 1) (a2_4 + 1) XX4 _ _ _ (by omega) h hx hr
        · rw [if_pos c_20_5] at h
          refine K.aload_n (q := 24) dX8_hole_23 rfl rfl ?_
          refine K.iload_n (q := 25) dX8_hole_24 rfl rfl ?_
          obtain ⟨v6, X6, h9_6, h⟩ := bnd2_inv h
          refine K.callV0 (q := 28) mkX8_done mw_X8_105 (s_X8_done _ _ h9_6) rfl (by decide) rfl (lt141 (by decide)) rx131 (Nat.le_of_ble_eq_true rfl) (Nat.le_of_ble_eq_true rfl) (Nat.le_of_ble_eq_true rfl) dX8_hole_25 rfl ?_
          obtain ⟨rfl, rfl, rfl⟩ := ret3_inv h
          obtain ⟨e_vo, e_Xo⟩ := hr _ rfl
          exact C.iret rfl rfl (congrArg (fun z => Sum.inl (some (Value.int z))) e_vo.symm) (congrArg mkH e_Xo) (Nat.le_of_ble_eq_true rfl) (Nat.le_of_ble_eq_true rfl) dX8_hole_28
  obtain ⟨ee4_7, a2_4_7, XX4_7, h9_7, h⟩ := bnd3_inv h
  refine L4 64 0 0 X _ _ _ (by omega) h9_7 (fun z_7 => ?_) (fun v hv => ?_)
  · replace h := elseE_none z_7 h
    refine K.aload_n (q := 39) dX8_hole_38 rfl rfl ?_
    refine K.iconst (q := 40) (v := 1) dX8_hole_39 rfl (by decide) ?_
    obtain ⟨v8, X8, h9_8, h⟩ := bnd2_inv h
    refine K.callV0 (q := 43) mkX8_fails mw_X8_98 (s_X8_fails _ _ h9_8) rfl (by decide) rfl (lt141 (by decide)) rx131 (Nat.le_of_ble_eq_true rfl) (Nat.le_of_ble_eq_true rfl) (Nat.le_of_ble_eq_true rfl) dX8_hole_40 rfl ?_
    obtain ⟨e_vo, e_Xo⟩ := ret2_inv h
    exact C.iret rfl rfl (congrArg (fun z => Sum.inl (some (Value.int z))) e_vo.symm) (congrArg mkH e_Xo) (Nat.le_of_ble_eq_true rfl) (Nat.le_of_ble_eq_true rfl) dX8_hole_43
  · have h8 := elseE_some hv h
    exact ret2_inv h8

def lp_X8_loansIn_5 (X : GS) (size : Int32) (unit : Int32) : Nat → Nat → Int32 → Option (Int32)
  | 0, _, a3_5 => some a3_5
  | j5 + 1, i5, a3_5 => (if (97 + i5) < 129 then (if (unit + size) ≤ ((X.2.2.1 5) ((97 + i5))) then (lp_X8_loansIn_5 X size unit j5 (i5 + 1) (a3_5 + 0)) else (if inR ((X.2.2.1 5) ((97 + i5))) 129 then (if (((X.2.2.1 5) ((97 + i5))) + ((X.2.2.1 5) (((X.2.2.1 5) ((97 + i5))).toNatClampNeg))) ≤ unit then (lp_X8_loansIn_5 X size unit j5 (i5 + 1) (a3_5 + 0)) else (lp_X8_loansIn_5 X size unit j5 (i5 + 1) (a3_5 + 1))) else none)) else none)

def m_X8_loansIn (X : GS) (unit : Int32) (size : Int32) : Option (Int32) := (bnd1 (lp_X8_loansIn_5 X size unit ((((X.2.2.1 5) 64)).toNatClampNeg) 0 0) fun (a3_5_7 : Int32) => (some a3_5_7))
set_option maxRecDepth 20000 in
set_option maxHeartbeats 1000000 in
theorem s_X8_loansIn (X : GS) (unit : Int32) (size : Int32) {vo : Int32} (h : m_X8_loansIn X unit size = some vo) : Ct 1 0 0 yX8_loansIn (.code yX8_loansIn cX8_loansIn 6 (some (.int))) [.ref 131, .int unit, .int size] (mkH X) (.inl (some (.int vo))) (mkH X) := by
  refine Ct.of (LL := [some (.ref 131), some (.int unit), some (.int size), none, none, none]) mkX8_loansIn.1 owX8_loansIn rfl (Nat.le_of_ble_eq_true rfl) rfl (fun Wk C => ?_)
  have K := C.core
  rw [m_X8_loansIn] at h
  refine K.iconst (q := 1) (v := 0) dX8_loansIn_0 rfl (by decide) ?_
  refine K.istore_n (q := 2) (i := 3) dX8_loansIn_1 rfl rfl (by decide) rfl ?_
  refine K.iconst (q := 3) (v := 0) dX8_loansIn_2 rfl (by decide) ?_
  refine K.istore (q := 5) dX8_loansIn_3 rfl (by decide) rfl ?_
  have L5 : ∀ (j5 i5 : Nat) (a3_5 : Int32) (a3_5r : Int32), i5 + j5 = ((((X.2.2.1 5) 64)).toNatClampNeg) → lp_X8_loansIn_5 X size unit j5 i5 a3_5 = some a3_5r → (Wk 0 0 65 [some (.ref 131), some (.int unit), some (.int size), some (.int a3_5r), none, none] [] (mkH X)) → Wk 0 0 5 [some (.ref 131), some (.int unit), some (.int size), some (.int a3_5), some (.int (nI i5)), none] [] (mkH X) := by
    intro j5
    induction j5 with
    | zero =>
      intro i5 a3_5 a3_5r hij h hx
      rw [lp_X8_loansIn_5] at h
      refine K.iload (q := 7) dX8_loansIn_5 rfl rfl ?_
      refine K.aload_n (q := 8) dX8_loansIn_7 rfl rfl ?_
      refine K.getf (q := 11) (v := .ref 132) fo_X8_7.r rx131 (lt141 (by decide)) rfl dX8_loansIn_8 rfl ?_
      refine K.bipush (q := 13) (v := 64) dX8_loansIn_11 rfl (by decide) ?_
      refine K.ial (q := 14) (f := (X.2.2.1 5)) (m := 64) rx132 (lt141 (by decide)) rfl (by decide) (by decide) dX8_loansIn_13 rfl ?_
      refine K.icmp_ge (q := 17) (tgt := 65) dX8_loansIn_14 rfl (by decide) (fun _ => ?_) (fun z => absurd z (not_not_intro (cl_ge (B := ((X.2.2.1 5) 64)) (by omega))))
      refine K.drop 4 ?_
      obtain q0 := ret1_inv h
      subst q0
      exact hx
    | succ j5 ih =>
      intro i5 a3_5 a3_5r hij h hx
      rw [lp_X8_loansIn_5] at h
      refine K.iload (q := 7) dX8_loansIn_5 rfl rfl ?_
      refine K.aload_n (q := 8) dX8_loansIn_7 rfl rfl ?_
      refine K.getf (q := 11) (v := .ref 132) fo_X8_7.r rx131 (lt141 (by decide)) rfl dX8_loansIn_8 rfl ?_
      refine K.bipush (q := 13) (v := 64) dX8_loansIn_11 rfl (by decide) ?_
      refine K.ial (q := 14) (f := (X.2.2.1 5)) (m := 64) rx132 (lt141 (by decide)) rfl (by decide) (by decide) dX8_loansIn_13 rfl ?_
      refine K.icmp_ge (q := 17) (tgt := 65) dX8_loansIn_14 rfl (by decide) (fun z => absurd z (cl_nge (B := ((X.2.2.1 5) 64)) (by omega))) (fun _ => ?_)
      refine K.aload_n (q := 18) dX8_loansIn_17 rfl rfl ?_
      refine K.getf (q := 21) (v := .ref 132) fo_X8_7.r rx131 (lt141 (by decide)) rfl dX8_loansIn_18 rfl ?_
      refine K.bipush (q := 23) (v := 97) dX8_loansIn_21 rfl (by decide) ?_
      refine K.iload (q := 25) dX8_loansIn_23 rfl rfl ?_
      refine K.iaddE (q := 26) (z := (nI (97 + i5))) (nI_add 97 i5) dX8_loansIn_25 rfl ?_
      obtain ⟨k_3, h⟩ := chk_inv h
      refine K.ial (q := 27) (f := (X.2.2.1 5)) (m := ((97 + i5))) rx132 (lt141 (by decide)) rfl k_3 (by decide) dX8_loansIn_26 rfl ?_
      refine K.istore (q := 29) dX8_loansIn_27 rfl (by decide) rfl ?_
      refine K.iload_n (q := 30) dX8_loansIn_29 rfl rfl ?_
      refine K.iload (q := 32) dX8_loansIn_30 rfl rfl ?_
      refine K.iload_n (q := 33) dX8_loansIn_32 rfl rfl ?_
      refine K.iload_n (q := 34) dX8_loansIn_33 rfl rfl ?_
      refine K.iadd (q := 35) dX8_loansIn_34 rfl ?_
      refine K.icmp_ge (q := 38) (tgt := 56) dX8_loansIn_35 rfl (by decide) (fun c_35_4 => ?_) (fun c_35_4 => ?_)
      · rw [if_pos c_35_4] at h
        refine K.iconst (q := 57) (v := 0) dX8_loansIn_56 rfl (by decide) ?_
        refine K.iadd (q := 58) dX8_loansIn_57 rfl ?_
        refine K.istore_n (q := 59) (i := 3) dX8_loansIn_58 rfl rfl (by decide) rfl ?_
        refine K.iinc (q := 62) (v := (nI (i5 + 1))) dX8_loansIn_59 rfl rfl (nI_1 _) (by decide) rfl ?_
        refine K.goto (tgt := 5) dX8_loansIn_62 (by decide) ?_
        refine K.drop 5 ?_
        exact ih (i5 + 1) (a3_5 + 0) _ (by omega) h hx
      · rw [if_neg c_35_4] at h
        refine K.iload_n (q := 39) dX8_loansIn_38 rfl rfl ?_
        refine K.iload (q := 41) dX8_loansIn_39 rfl rfl ?_
        refine K.aload_n (q := 42) dX8_loansIn_41 rfl rfl ?_
        refine K.getf (q := 45) (v := .ref 132) fo_X8_7.r rx131 (lt141 (by decide)) rfl dX8_loansIn_42 rfl ?_
        refine K.iload (q := 47) dX8_loansIn_45 rfl rfl ?_
        obtain ⟨k_5, h⟩ := chk_inv h
        refine K.ial (q := 48) (f := (X.2.2.1 5)) (m := (((X.2.2.1 5) ((97 + i5))).toNatClampNeg)) rx132 (lt141 (by decide)) (cl_nI k_5.1) k_5.2 (by decide) dX8_loansIn_47 rfl ?_
        refine K.iadd (q := 49) dX8_loansIn_48 rfl ?_
        refine K.icmp_ge (q := 52) (tgt := 56) dX8_loansIn_49 rfl (by decide) (fun c_49_6 => ?_) (fun c_49_6 => ?_)
        · rw [if_pos c_49_6] at h
          refine K.iconst (q := 57) (v := 0) dX8_loansIn_56 rfl (by decide) ?_
          refine K.iadd (q := 58) dX8_loansIn_57 rfl ?_
          refine K.istore_n (q := 59) (i := 3) dX8_loansIn_58 rfl rfl (by decide) rfl ?_
          refine K.iinc (q := 62) (v := (nI (i5 + 1))) dX8_loansIn_59 rfl rfl (nI_1 _) (by decide) rfl ?_
          refine K.goto (tgt := 5) dX8_loansIn_62 (by decide) ?_
          refine K.drop 5 ?_
          exact ih (i5 + 1) (a3_5 + 0) _ (by omega) h hx
        · rw [if_neg c_49_6] at h
          refine K.iconst (q := 53) (v := 1) dX8_loansIn_52 rfl (by decide) ?_
          refine K.goto (tgt := 57) dX8_loansIn_53 (by decide) ?_
          refine K.iadd (q := 58) dX8_loansIn_57 rfl ?_
          refine K.istore_n (q := 59) (i := 3) dX8_loansIn_58 rfl rfl (by decide) rfl ?_
          refine K.iinc (q := 62) (v := (nI (i5 + 1))) dX8_loansIn_59 rfl rfl (nI_1 _) (by decide) rfl ?_
          refine K.goto (tgt := 5) dX8_loansIn_62 (by decide) ?_
          refine K.drop 5 ?_
          exact ih (i5 + 1) (a3_5 + 1) _ (by omega) h hx
  obtain ⟨a3_5_7, h9_7, h⟩ := bnd1_inv h
  refine L5 ((((X.2.2.1 5) 64)).toNatClampNeg) 0 0 _ (by omega) h9_7 ?_
  refine K.iload_n (q := 66) dX8_loansIn_65 rfl rfl ?_
  obtain e_vo := ret1_inv h
  exact C.iret rfl rfl (congrArg (fun z => Sum.inl (some (Value.int z))) e_vo.symm) rfl (Nat.le_of_ble_eq_true rfl) (Nat.le_of_ble_eq_true rfl) dX8_loansIn_66

def lp_X8_inTheWay_24 (X : GS) (v3 : Int32) : Nat → Int32 → Int32 → Option (Int32 × Int32)
  | 0, _, _ => none
  | j24 + 1, a3_24, a4_24 => (if 64 ≤ a4_24 then (some (a3_24, a4_24)) else (bnd1 (m_X8_loansIn X a4_24 v3) fun (v5 : Int32) => (if a3_24 ≤ v5 then (lp_X8_inTheWay_24 X v3 j24 a3_24 (a4_24 + v3)) else (bnd1 (m_X8_loansIn X a4_24 v3) fun (v7 : Int32) => (lp_X8_inTheWay_24 X v3 j24 v7 (a4_24 + v3))))))

def m_X8_inTheWay (X : GS) (amount : Int32) : Option (Int32 × GS) := (bnd1 (m_X8_isAmount amount) fun (v1 : Int32) => (if v1 = 0 then (bnd2 (m_X8_fails X 1) fun (v10 : Int32) (X10 : GS) => (some (v10, X10))) else (bnd1 (m_X8_need amount) fun (v3 : Int32) => (bnd2 (lp_X8_inTheWay_24 X v3 1000 16 0) fun (a3_24_8 : Int32) (a4_24_8 : Int32) => (bnd2 (m_X8_done X a3_24_8) fun (v9 : Int32) (X9 : GS) => (some (v9, X9)))))))
set_option maxRecDepth 20000 in
set_option maxHeartbeats 1000000 in
theorem s_X8_inTheWay (X : GS) (amount : Int32) {vo : Int32} {Xo : GS} (h : m_X8_inTheWay X amount = some (vo, Xo)) : Ct 3 0 0 yX8_inTheWay (.code yX8_inTheWay cX8_inTheWay 5 (some (.int))) [.ref 131, .int amount] (mkH X) (.inl (some (.int vo))) (mkH Xo) := by
  refine Ct.of (LL := [some (.ref 131), some (.int amount), none, none, none]) mkX8_inTheWay.1 owX8_inTheWay rfl (Nat.le_of_ble_eq_true rfl) rfl (fun Wk C => ?_)
  have K := C.core
  rw [m_X8_inTheWay] at h
  refine K.iload_n (q := 1) dX8_inTheWay_0 rfl rfl ?_
  obtain ⟨v1, h9_1, h⟩ := bnd1_inv h
  refine K.callS0 (q := 4) mkX8_isAmount mw_X8_95 (s_X8_isAmount _ _ h9_1) rfl (by decide) rfl (Nat.le_of_ble_eq_true rfl) (Nat.le_of_ble_eq_true rfl) (Nat.le_of_ble_eq_true rfl) dX8_inTheWay_1 rfl ?_
  refine K.if_ne (q := 7) (tgt := 13) dX8_inTheWay_4 rfl (by decide) (fun c_4_2 => ?_) (fun c_4_2 => ?_)
  · rw [if_neg c_4_2] at h
    refine K.iload_n (q := 14) dX8_inTheWay_13 rfl rfl ?_
    obtain ⟨v3, h9_3, h⟩ := bnd1_inv h
    refine K.callS0 (q := 17) mkX8_need mw_X8_72 (s_X8_need _ _ h9_3) rfl (by decide) rfl (Nat.le_of_ble_eq_true rfl) (Nat.le_of_ble_eq_true rfl) (Nat.le_of_ble_eq_true rfl) dX8_inTheWay_14 rfl ?_
    refine K.istore_n (q := 18) (i := 2) dX8_inTheWay_17 rfl rfl (by decide) rfl ?_
    refine K.bipush (q := 20) (v := 16) dX8_inTheWay_18 rfl (by decide) ?_
    refine K.istore_n (q := 21) (i := 3) dX8_inTheWay_20 rfl rfl (by decide) rfl ?_
    refine K.iconst (q := 22) (v := 0) dX8_inTheWay_21 rfl (by decide) ?_
    refine K.istore (q := 24) dX8_inTheWay_22 rfl (by decide) rfl ?_
    have L24 : ∀ (j24 : Nat) (a3_24 : Int32) (a4_24 : Int32) (a3_24r : Int32) (a4_24r : Int32), lp_X8_inTheWay_24 X v3 j24 a3_24 a4_24 = some (a3_24r, a4_24r) → (Wk 0 0 63 [some (.ref 131), some (.int amount), some (.int v3), some (.int a3_24r), some (.int a4_24r)] [] (mkH X)) → Wk 0 0 24 [some (.ref 131), some (.int amount), some (.int v3), some (.int a3_24), some (.int a4_24)] [] (mkH X) := by
      intro j24
      induction j24 with
      | zero =>
        intro a3_24 a4_24 a3_24r a4_24r h hx
        rw [lp_X8_inTheWay_24] at h
        cases h
      | succ j24 ih =>
        intro a3_24 a4_24 a3_24r a4_24r h hx
        rw [lp_X8_inTheWay_24] at h
        refine K.iload (q := 26) dX8_inTheWay_24 rfl rfl ?_
        refine K.bipush (q := 28) (v := 64) dX8_inTheWay_26 rfl (by decide) ?_
        refine K.icmp_ge (q := 31) (tgt := 63) dX8_inTheWay_28 rfl (by decide) (fun c_28_4 => ?_) (fun c_28_4 => ?_)
        · rw [if_pos c_28_4] at h
          obtain ⟨q0, q1⟩ := ret2_inv h
          subst q0; subst q1
          exact hx
        · rw [if_neg c_28_4] at h
          refine K.aload_n (q := 32) dX8_inTheWay_31 rfl rfl ?_
          refine K.iload (q := 34) dX8_inTheWay_32 rfl rfl ?_
          refine K.iload_n (q := 35) dX8_inTheWay_34 rfl rfl ?_
          obtain ⟨v5, h9_5, h⟩ := bnd1_inv h
          refine K.callV0 (q := 38) mkX8_loansIn mw_X8_169 (s_X8_loansIn _ _ _ h9_5) rfl (by decide) rfl (lt141 (by decide)) rx131 (Nat.le_of_ble_eq_true rfl) (Nat.le_of_ble_eq_true rfl) (Nat.le_of_ble_eq_true rfl) dX8_inTheWay_35 rfl ?_
          refine K.iload_n (q := 39) dX8_inTheWay_38 rfl rfl ?_
          refine K.icmp_ge (q := 42) (tgt := 52) dX8_inTheWay_39 rfl (by decide) (fun c_39_6 => ?_) (fun c_39_6 => ?_)
          · rw [if_pos c_39_6] at h
            refine K.iload_n (q := 53) dX8_inTheWay_52 rfl rfl ?_
            refine K.istore_n (q := 54) (i := 3) dX8_inTheWay_53 rfl rfl (by decide) rfl ?_
            refine K.iload (q := 56) dX8_inTheWay_54 rfl rfl ?_
            refine K.iload_n (q := 57) dX8_inTheWay_56 rfl rfl ?_
            refine K.iadd (q := 58) dX8_inTheWay_57 rfl ?_
            refine K.istore (q := 60) dX8_inTheWay_58 rfl (by decide) rfl ?_
            refine K.goto (tgt := 24) dX8_inTheWay_60 (by decide) ?_
            exact ih a3_24 (a4_24 + v3) _ _ h hx
          · rw [if_neg c_39_6] at h
            refine K.aload_n (q := 43) dX8_inTheWay_42 rfl rfl ?_
            refine K.iload (q := 45) dX8_inTheWay_43 rfl rfl ?_
            refine K.iload_n (q := 46) dX8_inTheWay_45 rfl rfl ?_
            obtain ⟨v7, h9_7, h⟩ := bnd1_inv h
            refine K.callV0 (q := 49) mkX8_loansIn mw_X8_169 (s_X8_loansIn _ _ _ h9_7) rfl (by decide) rfl (lt141 (by decide)) rx131 (Nat.le_of_ble_eq_true rfl) (Nat.le_of_ble_eq_true rfl) (Nat.le_of_ble_eq_true rfl) dX8_inTheWay_46 rfl ?_
            refine K.goto (tgt := 53) dX8_inTheWay_49 (by decide) ?_
            refine K.istore_n (q := 54) (i := 3) dX8_inTheWay_53 rfl rfl (by decide) rfl ?_
            refine K.iload (q := 56) dX8_inTheWay_54 rfl rfl ?_
            refine K.iload_n (q := 57) dX8_inTheWay_56 rfl rfl ?_
            refine K.iadd (q := 58) dX8_inTheWay_57 rfl ?_
            refine K.istore (q := 60) dX8_inTheWay_58 rfl (by decide) rfl ?_
            refine K.goto (tgt := 24) dX8_inTheWay_60 (by decide) ?_
            exact ih v7 (a4_24 + v3) _ _ h hx
    obtain ⟨a3_24_8, a4_24_8, h9_8, h⟩ := bnd2_inv h
    refine L24 1000 16 0 _ _ h9_8 ?_
    refine K.aload_n (q := 64) dX8_inTheWay_63 rfl rfl ?_
    refine K.iload_n (q := 65) dX8_inTheWay_64 rfl rfl ?_
    obtain ⟨v9, X9, h9_9, h⟩ := bnd2_inv h
    refine K.callV0 (q := 68) mkX8_done mw_X8_105 (s_X8_done _ _ h9_9) rfl (by decide) rfl (lt141 (by decide)) rx131 (Nat.le_of_ble_eq_true rfl) (Nat.le_of_ble_eq_true rfl) (Nat.le_of_ble_eq_true rfl) dX8_inTheWay_65 rfl ?_
    obtain ⟨e_vo, e_Xo⟩ := ret2_inv h
    exact C.iret rfl rfl (congrArg (fun z => Sum.inl (some (Value.int z))) e_vo.symm) (congrArg mkH e_Xo) (Nat.le_of_ble_eq_true rfl) (Nat.le_of_ble_eq_true rfl) dX8_inTheWay_68
  · rw [if_pos c_4_2] at h
    refine K.aload_n (q := 8) dX8_inTheWay_7 rfl rfl ?_
    refine K.iconst (q := 9) (v := 1) dX8_inTheWay_8 rfl (by decide) ?_
    obtain ⟨v10, X10, h9_10, h⟩ := bnd2_inv h
    refine K.callV0 (q := 12) mkX8_fails mw_X8_98 (s_X8_fails _ _ h9_10) rfl (by decide) rfl (lt141 (by decide)) rx131 (Nat.le_of_ble_eq_true rfl) (Nat.le_of_ble_eq_true rfl) (Nat.le_of_ble_eq_true rfl) dX8_inTheWay_9 rfl ?_
    obtain ⟨e_vo, e_Xo⟩ := ret2_inv h
    exact C.iret rfl rfl (congrArg (fun z => Sum.inl (some (Value.int z))) e_vo.symm) (congrArg mkH e_Xo) (Nat.le_of_ble_eq_true rfl) (Nat.le_of_ble_eq_true rfl) dX8_inTheWay_12

def lp_X8_ranked_22 (XX2 : GS) (i2 : Nat) : Nat → Nat → Int32 → Option (Int32)
  | 0, _, a3_22 => some a3_22
  | j22 + 1, i22, a3_22 => (bnd1 (m_X8_held XX2 (nI i22) 2) fun (v7 : Int32) => (bnd1 (m_X8_held XX2 (nI i2) 2) fun (v8 : Int32) => (if 0 < (v7 - v8) then (lp_X8_ranked_22 XX2 i2 j22 (i22 + 1) (a3_22 + 1)) else (if (v7 - v8) = 0 then (if (nI i2) ≤ (nI i22) then (lp_X8_ranked_22 XX2 i2 j22 (i22 + 1) (a3_22 + 0)) else (lp_X8_ranked_22 XX2 i2 j22 (i22 + 1) (a3_22 + 1))) else (lp_X8_ranked_22 XX2 i2 j22 (i22 + 1) (a3_22 + 0))))))

def lp_X8_ranked_2 (place : Int32) : Nat → Nat → GS → Option (Option Int32 × GS)
  | 0, _, XX2 => some (none, XX2)
  | j2 + 1, i2, XX2 => (bnd1 (m_X8_held XX2 (nI i2) 0) fun (v3 : Int32) => (if v3 ≤ 0 then (lp_X8_ranked_2 place j2 (i2 + 1) XX2) else (bnd1 (lp_X8_ranked_22 XX2 i2 100 0 0) fun (a3_22_12 : Int32) => (if a3_22_12 = place then (bnd2 (m_X8_done XX2 (nI i2)) fun (v14 : Int32) (X14 : GS) => (some (some v14, X14))) else (lp_X8_ranked_2 place j2 (i2 + 1) XX2)))))

def m_X8_ranked (X : GS) (place : Int32) : Option (Int32 × GS) := (bnd2 (lp_X8_ranked_2 place 100 0 X) fun (ee2_15 : Option Int32) (XX2_15 : GS) => (elseE ee2_15 (fun v => some (v, XX2_15)) (bnd2 (m_X8_fails XX2_15 1) fun (v16 : Int32) (X16 : GS) => (some (v16, X16)))))
set_option maxRecDepth 20000 in
set_option maxHeartbeats 1000000 in
theorem s_X8_ranked (X : GS) (place : Int32) {vo : Int32} {Xo : GS} (h : m_X8_ranked X place = some (vo, Xo)) : Ct 3 0 0 yX8_ranked (.code yX8_ranked cX8_ranked 6 (some (.int))) [.ref 131, .int place] (mkH X) (.inl (some (.int vo))) (mkH Xo) := by
  refine Ct.of (LL := [some (.ref 131), some (.int place), none, none, none, none]) mkX8_ranked.1 owX8_ranked rfl (Nat.le_of_ble_eq_true rfl) rfl (fun Wk C => ?_)
  have K := C.core
  rw [m_X8_ranked] at h
  refine K.iconst (q := 1) (v := 0) dX8_ranked_0 rfl (by decide) ?_
  refine K.istore_n (q := 2) (i := 2) dX8_ranked_1 rfl rfl (by decide) rfl ?_
  have L2 : ∀ (j2 i2 : Nat) (XX2 : GS) (ee2 : Option Int32) (XX2r : GS), i2 + j2 = 100 → lp_X8_ranked_2 place j2 i2 XX2 = some (ee2, XX2r) → (ee2 = none → Wk 0 0 92 [some (.ref 131), some (.int place), none, none, none, none] [] (mkH XX2r)) → (∀ v : Int32, ee2 = some v → v = vo ∧ XX2r = Xo) → Wk 0 0 2 [some (.ref 131), some (.int place), some (.int (nI i2)), none, none, none] [] (mkH XX2) := by
    intro j2
    induction j2 with
    | zero =>
      intro i2 XX2 ee2 XX2r hij h hx hr
      rw [lp_X8_ranked_2] at h
      refine K.iload_n (q := 3) dX8_ranked_2 rfl rfl ?_
      refine K.bipush (q := 5) (v := 100) dX8_ranked_3 rfl (by decide) ?_
      refine K.icmp_ge (q := 8) (tgt := 92) dX8_ranked_5 rfl (by decide) (fun _ => ?_) (fun z => absurd z (not_not_intro (nI_le (a := 100) (b := i2) (by omega) (by omega))))
      refine K.drop 2 ?_
      obtain ⟨q0, q1⟩ := ret2_inv h
      subst q0; subst q1
      exact hx rfl
    | succ j2 ih =>
      intro i2 XX2 ee2 XX2r hij h hx hr
      rw [lp_X8_ranked_2] at h
      refine K.iload_n (q := 3) dX8_ranked_2 rfl rfl ?_
      refine K.bipush (q := 5) (v := 100) dX8_ranked_3 rfl (by decide) ?_
      refine K.icmp_ge (q := 8) (tgt := 92) dX8_ranked_5 rfl (by decide) (fun z => absurd z (nI_ge (a := i2) (b := 100) (by omega) (by omega))) (fun _ => ?_)
      refine K.aload_n (q := 9) dX8_ranked_8 rfl rfl ?_
      refine K.iload_n (q := 10) dX8_ranked_9 rfl rfl ?_
      refine K.iconst (q := 11) (v := 0) dX8_ranked_10 rfl (by decide) ?_
      obtain ⟨v3, h9_3, h⟩ := bnd1_inv h
      refine K.callV0 (q := 14) mkX8_held mw_X8_160 (s_X8_held _ _ _ h9_3) rfl (by decide) rfl (lt141 (by decide)) rx131 (Nat.le_of_ble_eq_true rfl) (Nat.le_of_ble_eq_true rfl) (Nat.le_of_ble_eq_true rfl) dX8_ranked_11 rfl ?_
      refine K.if_le (q := 17) (tgt := 86) dX8_ranked_14 rfl (by decide) (fun c_14_4 => ?_) (fun c_14_4 => ?_)
      · rw [if_pos c_14_4] at h
        refine K.iinc (q := 89) (v := (nI (i2 + 1))) dX8_ranked_86 rfl rfl (nI_1 _) (by decide) rfl ?_
        refine K.goto (tgt := 2) dX8_ranked_89 (by decide) ?_
        exact ih (i2 + 1) XX2 _ _ (by omega) h hx hr
      · rw [if_neg c_14_4] at h
        refine K.iconst (q := 18) (v := 0) dX8_ranked_17 rfl (by decide) ?_
        refine K.istore_n (q := 19) (i := 3) dX8_ranked_18 rfl rfl (by decide) rfl ?_
        refine K.iconst (q := 20) (v := 0) dX8_ranked_19 rfl (by decide) ?_
        refine K.istore (q := 22) dX8_ranked_20 rfl (by decide) rfl ?_
        have L22 : ∀ (j22 i22 : Nat) (a3_22 : Int32) (a3_22r : Int32), i22 + j22 = 100 → lp_X8_ranked_22 XX2 i2 j22 i22 a3_22 = some a3_22r → (Wk 0 0 75 [some (.ref 131), some (.int place), some (.int (nI i2)), some (.int a3_22r), none, none] [] (mkH XX2)) → Wk 0 0 22 [some (.ref 131), some (.int place), some (.int (nI i2)), some (.int a3_22), some (.int (nI i22)), none] [] (mkH XX2) := by
          intro j22
          induction j22 with
          | zero =>
            intro i22 a3_22 a3_22r hij h hx
            rw [lp_X8_ranked_22] at h
            refine K.iload (q := 24) dX8_ranked_22 rfl rfl ?_
            refine K.bipush (q := 26) (v := 100) dX8_ranked_24 rfl (by decide) ?_
            refine K.icmp_ge (q := 29) (tgt := 75) dX8_ranked_26 rfl (by decide) (fun _ => ?_) (fun z => absurd z (not_not_intro (nI_le (a := 100) (b := i22) (by omega) (by omega))))
            refine K.drop 4 ?_
            obtain q0 := ret1_inv h
            subst q0
            exact hx
          | succ j22 ih =>
            intro i22 a3_22 a3_22r hij h hx
            rw [lp_X8_ranked_22] at h
            refine K.iload (q := 24) dX8_ranked_22 rfl rfl ?_
            refine K.bipush (q := 26) (v := 100) dX8_ranked_24 rfl (by decide) ?_
            refine K.icmp_ge (q := 29) (tgt := 75) dX8_ranked_26 rfl (by decide) (fun z => absurd z (nI_ge (a := i22) (b := 100) (by omega) (by omega))) (fun _ => ?_)
            refine K.aload_n (q := 30) dX8_ranked_29 rfl rfl ?_
            refine K.iload (q := 32) dX8_ranked_30 rfl rfl ?_
            refine K.iconst (q := 33) (v := 2) dX8_ranked_32 rfl (by decide) ?_
            obtain ⟨v7, h9_7, h⟩ := bnd1_inv h
            refine K.callV0 (q := 36) mkX8_held mw_X8_160 (s_X8_held _ _ _ h9_7) rfl (by decide) rfl (lt141 (by decide)) rx131 (Nat.le_of_ble_eq_true rfl) (Nat.le_of_ble_eq_true rfl) (Nat.le_of_ble_eq_true rfl) dX8_ranked_33 rfl ?_
            refine K.aload_n (q := 37) dX8_ranked_36 rfl rfl ?_
            refine K.iload_n (q := 38) dX8_ranked_37 rfl rfl ?_
            refine K.iconst (q := 39) (v := 2) dX8_ranked_38 rfl (by decide) ?_
            obtain ⟨v8, h9_8, h⟩ := bnd1_inv h
            refine K.callV0 (q := 42) mkX8_held mw_X8_160 (s_X8_held _ _ _ h9_8) rfl (by decide) rfl (lt141 (by decide)) rx131 (Nat.le_of_ble_eq_true rfl) (Nat.le_of_ble_eq_true rfl) (Nat.le_of_ble_eq_true rfl) dX8_ranked_39 rfl ?_
            refine K.isub (q := 43) dX8_ranked_42 rfl ?_
            refine K.istore (q := 45) dX8_ranked_43 rfl (by decide) rfl ?_
            refine K.iload_n (q := 46) dX8_ranked_45 rfl rfl ?_
            refine K.iload (q := 48) dX8_ranked_46 rfl rfl ?_
            refine K.if_gt (q := 51) (tgt := 62) dX8_ranked_48 rfl (by decide) (fun c_48_9 => ?_) (fun c_48_9 => ?_)
            · rw [if_pos c_48_9] at h
              refine K.iconst (q := 63) (v := 1) dX8_ranked_62 rfl (by decide) ?_
              refine K.goto (tgt := 67) dX8_ranked_63 (by decide) ?_
              refine K.iadd (q := 68) dX8_ranked_67 rfl ?_
              refine K.istore_n (q := 69) (i := 3) dX8_ranked_68 rfl rfl (by decide) rfl ?_
              refine K.iinc (q := 72) (v := (nI (i22 + 1))) dX8_ranked_69 rfl rfl (nI_1 _) (by decide) rfl ?_
              refine K.goto (tgt := 22) dX8_ranked_72 (by decide) ?_
              refine K.drop 5 ?_
              exact ih (i22 + 1) (a3_22 + 1) _ (by omega) h hx
            · rw [if_neg c_48_9] at h
              refine K.iload (q := 53) dX8_ranked_51 rfl rfl ?_
              refine K.if_ne (q := 56) (tgt := 66) dX8_ranked_53 rfl (by decide) (fun c_53_10 => ?_) (fun c_53_10 => ?_)
              · rw [if_neg c_53_10] at h
                refine K.iconst (q := 67) (v := 0) dX8_ranked_66 rfl (by decide) ?_
                refine K.iadd (q := 68) dX8_ranked_67 rfl ?_
                refine K.istore_n (q := 69) (i := 3) dX8_ranked_68 rfl rfl (by decide) rfl ?_
                refine K.iinc (q := 72) (v := (nI (i22 + 1))) dX8_ranked_69 rfl rfl (nI_1 _) (by decide) rfl ?_
                refine K.goto (tgt := 22) dX8_ranked_72 (by decide) ?_
                refine K.drop 5 ?_
                exact ih (i22 + 1) (a3_22 + 0) _ (by omega) h hx
              · rw [if_pos c_53_10] at h
                refine K.iload (q := 58) dX8_ranked_56 rfl rfl ?_
                refine K.iload_n (q := 59) dX8_ranked_58 rfl rfl ?_
                refine K.icmp_ge (q := 62) (tgt := 66) dX8_ranked_59 rfl (by decide) (fun c_59_11 => ?_) (fun c_59_11 => ?_)
                · rw [if_pos c_59_11] at h
                  refine K.iconst (q := 67) (v := 0) dX8_ranked_66 rfl (by decide) ?_
                  refine K.iadd (q := 68) dX8_ranked_67 rfl ?_
                  refine K.istore_n (q := 69) (i := 3) dX8_ranked_68 rfl rfl (by decide) rfl ?_
                  refine K.iinc (q := 72) (v := (nI (i22 + 1))) dX8_ranked_69 rfl rfl (nI_1 _) (by decide) rfl ?_
                  refine K.goto (tgt := 22) dX8_ranked_72 (by decide) ?_
                  refine K.drop 5 ?_
                  exact ih (i22 + 1) (a3_22 + 0) _ (by omega) h hx
                · rw [if_neg c_59_11] at h
                  refine K.iconst (q := 63) (v := 1) dX8_ranked_62 rfl (by decide) ?_
                  refine K.goto (tgt := 67) dX8_ranked_63 (by decide) ?_
                  refine K.iadd (q := 68) dX8_ranked_67 rfl ?_
                  refine K.istore_n (q := 69) (i := 3) dX8_ranked_68 rfl rfl (by decide) rfl ?_
                  refine K.iinc (q := 72) (v := (nI (i22 + 1))) dX8_ranked_69 rfl rfl (nI_1 _) (by decide) rfl ?_
                  refine K.goto (tgt := 22) dX8_ranked_72 (by decide) ?_
                  refine K.drop 5 ?_
                  exact ih (i22 + 1) (a3_22 + 1) _ (by omega) h hx
        obtain ⟨a3_22_12, h9_12, h⟩ := bnd1_inv h
        refine L22 100 0 0 _ (by omega) h9_12 ?_
        refine K.iload_n (q := 76) dX8_ranked_75 rfl rfl ?_
        refine K.iload_n (q := 77) dX8_ranked_76 rfl rfl ?_
        refine K.icmp_ne (q := 80) (tgt := 86) dX8_ranked_77 rfl (by decide) (fun c_77_13 => ?_) (fun c_77_13 => ?_)
        · rw [if_neg c_77_13] at h
          refine K.iinc (q := 89) (v := (nI (i2 + 1))) dX8_ranked_86 rfl rfl (nI_1 _) (by decide) rfl ?_
          refine K.goto (tgt := 2) dX8_ranked_89 (by decide) ?_
          refine K.drop 3 ?_
          exact ih (i2 + 1) XX2 _ _ (by omega) h hx hr
        · rw [if_pos c_77_13] at h
          refine K.aload_n (q := 81) dX8_ranked_80 rfl rfl ?_
          refine K.iload_n (q := 82) dX8_ranked_81 rfl rfl ?_
          obtain ⟨v14, X14, h9_14, h⟩ := bnd2_inv h
          refine K.callV0 (q := 85) mkX8_done mw_X8_105 (s_X8_done _ _ h9_14) rfl (by decide) rfl (lt141 (by decide)) rx131 (Nat.le_of_ble_eq_true rfl) (Nat.le_of_ble_eq_true rfl) (Nat.le_of_ble_eq_true rfl) dX8_ranked_82 rfl ?_
          obtain ⟨rfl, rfl⟩ := ret2_inv h
          obtain ⟨e_vo, e_Xo⟩ := hr _ rfl
          exact C.iret rfl rfl (congrArg (fun z => Sum.inl (some (Value.int z))) e_vo.symm) (congrArg mkH e_Xo) (Nat.le_of_ble_eq_true rfl) (Nat.le_of_ble_eq_true rfl) dX8_ranked_85
  obtain ⟨ee2_15, XX2_15, h9_15, h⟩ := bnd2_inv h
  refine L2 100 0 X _ _ (by omega) h9_15 (fun z_15 => ?_) (fun v hv => ?_)
  · replace h := elseE_none z_15 h
    refine K.aload_n (q := 93) dX8_ranked_92 rfl rfl ?_
    refine K.iconst (q := 94) (v := 1) dX8_ranked_93 rfl (by decide) ?_
    obtain ⟨v16, X16, h9_16, h⟩ := bnd2_inv h
    refine K.callV0 (q := 97) mkX8_fails mw_X8_98 (s_X8_fails _ _ h9_16) rfl (by decide) rfl (lt141 (by decide)) rx131 (Nat.le_of_ble_eq_true rfl) (Nat.le_of_ble_eq_true rfl) (Nat.le_of_ble_eq_true rfl) dX8_ranked_94 rfl ?_
    obtain ⟨e_vo, e_Xo⟩ := ret2_inv h
    exact C.iret rfl rfl (congrArg (fun z => Sum.inl (some (Value.int z))) e_vo.symm) (congrArg mkH e_Xo) (Nat.le_of_ble_eq_true rfl) (Nat.le_of_ble_eq_true rfl) dX8_ranked_97
  · have h8 := elseE_some hv h
    exact ret2_inv h8
