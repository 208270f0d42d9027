def m_X8_lends (X : GS) (name : Int32) (amount : Int32) : Option (Int32 × GS) := (bnd1 (m_X8_isName name) fun (v1 : Int32) => (if v1 = 0 then (bnd2 (m_X8_fails X 1) fun (v3 : Int32) (X3 : GS) => (some (v3, X3))) else (bnd1 (m_X8_isAmount amount) fun (v4 : Int32) => (if v4 = 0 then (bnd2 (m_X8_fails X 1) fun (v14 : Int32) (X14 : GS) => (some (v14, X14))) else (if ((X.2.2.1 5) 64) = 16 then (bnd2 (m_X8_refused X 1 16 2) fun (v13 : Int32) (X13 : GS) => (some (v13, X13))) else (bnd1 (m_X8_canLend X amount) fun (v7 : Int32) => (if v7 = 0 then (bnd1 (m_X8_greatestFree X) fun (v9 : Int32) => (bnd2 (m_X8_refused X 2 v9 2) fun (v10 : Int32) (X10 : GS) => (some (v10, X10)))) else (bnd2 (m_X8_lendsTo X name amount) fun (v11 : Int32) (X11 : GS) => (bnd2 (m_X8_done X11 v11) fun (v12 : Int32) (X12 : GS) => (some (v12, X12)))))))))))
set_option maxRecDepth 20000 in
set_option maxHeartbeats 1000000 in
theorem s_X8_lends (X : GS) (name : Int32) (amount : Int32) {vo : Int32} {Xo : GS} (h : m_X8_lends X name amount = some (vo, Xo)) : Ct 5 0 0 yX8_lends (.code yX8_lends cX8_lends 3 (some (.int))) [.ref 131, .int name, .int amount] (mkH X) (.inl (some (.int vo))) (mkH Xo) := by
  refine Ct.of (LL := [some (.ref 131), some (.int name), some (.int amount)]) mkX8_lends.1 owX8_lends rfl (Nat.le_of_ble_eq_true rfl) rfl (fun Wk C => ?_)
  have K := C.core
  rw [m_X8_lends] at h
  refine K.iload_n (q := 1) dX8_lends_0 rfl rfl ?_
  obtain ⟨v1, h9_1, h⟩ := bnd1_inv h
  refine K.callS0 (q := 4) mkX8_isName mw_X8_92 (s_X8_isName _ _ h9_1) rfl (by decide) rfl (Nat.le_of_ble_eq_true rfl) (Nat.le_of_ble_eq_true rfl) (Nat.le_of_ble_eq_true rfl) dX8_lends_1 rfl ?_
  refine K.if_eq (q := 7) (tgt := 14) dX8_lends_4 rfl (by decide) (fun c_4_2 => ?_) (fun c_4_2 => ?_)
  · rw [if_pos c_4_2] at h
    refine K.aload_n (q := 15) dX8_lends_14 rfl rfl ?_
    refine K.iconst (q := 16) (v := 1) dX8_lends_15 rfl (by decide) ?_
    obtain ⟨v3, X3, h9_3, h⟩ := bnd2_inv h
    refine K.callV0 (q := 19) mkX8_fails mw_X8_98 (s_X8_fails _ _ h9_3) rfl (by decide) rfl (lt141 (by decide)) rx131 (Nat.le_of_ble_eq_true rfl) (Nat.le_of_ble_eq_true rfl) (Nat.le_of_ble_eq_true rfl) dX8_lends_16 rfl ?_
    obtain ⟨e_vo, e_Xo⟩ := ret2_inv h
    exact C.iret rfl rfl (congrArg (fun z => Sum.inl (some (Value.int z))) e_vo.symm) (congrArg mkH e_Xo) (Nat.le_of_ble_eq_true rfl) (Nat.le_of_ble_eq_true rfl) dX8_lends_19
  · rw [if_neg c_4_2] at h
    refine K.iload_n (q := 8) dX8_lends_7 rfl rfl ?_
    obtain ⟨v4, h9_4, h⟩ := bnd1_inv h
    refine K.callS0 (q := 11) mkX8_isAmount mw_X8_95 (s_X8_isAmount _ _ h9_4) rfl (by decide) rfl (Nat.le_of_ble_eq_true rfl) (Nat.le_of_ble_eq_true rfl) (Nat.le_of_ble_eq_true rfl) dX8_lends_8 rfl ?_
    refine K.if_ne (q := 14) (tgt := 20) dX8_lends_11 rfl (by decide) (fun c_11_5 => ?_) (fun c_11_5 => ?_)
    · rw [if_neg c_11_5] at h
      refine K.aload_n (q := 21) dX8_lends_20 rfl rfl ?_
      refine K.getf (q := 24) (v := .ref 132) fo_X8_7.r rx131 (lt141 (by decide)) rfl dX8_lends_21 rfl ?_
      refine K.bipush (q := 26) (v := 64) dX8_lends_24 rfl (by decide) ?_
      refine K.ial (q := 27) (f := (X.2.2.1 5)) (m := 64) rx132 (lt141 (by decide)) rfl (by decide) (by decide) dX8_lends_26 rfl ?_
      refine K.bipush (q := 29) (v := 16) dX8_lends_27 rfl (by decide) ?_
      refine K.icmp_ne (q := 32) (tgt := 41) dX8_lends_29 rfl (by decide) (fun c_29_6 => ?_) (fun c_29_6 => ?_)
      · rw [if_neg c_29_6] at h
        refine K.aload_n (q := 42) dX8_lends_41 rfl rfl ?_
        refine K.iload_n (q := 43) dX8_lends_42 rfl rfl ?_
        obtain ⟨v7, h9_7, h⟩ := bnd1_inv h
        refine K.callV0 (q := 46) mkX8_canLend mw_X8_82 (s_X8_canLend _ _ h9_7) rfl (by decide) rfl (lt141 (by decide)) rx131 (Nat.le_of_ble_eq_true rfl) (Nat.le_of_ble_eq_true rfl) (Nat.le_of_ble_eq_true rfl) dX8_lends_43 rfl ?_
        refine K.if_eq (q := 49) (tgt := 62) dX8_lends_46 rfl (by decide) (fun c_46_8 => ?_) (fun c_46_8 => ?_)
        · rw [if_pos c_46_8] at h
          refine K.aload_n (q := 63) dX8_lends_62 rfl rfl ?_
          refine K.iconst (q := 64) (v := 2) dX8_lends_63 rfl (by decide) ?_
          refine K.aload_n (q := 65) dX8_lends_64 rfl rfl ?_
          obtain ⟨v9, h9_9, h⟩ := bnd1_inv h
          refine K.callV0 (q := 68) mkX8_greatestFree mw_X8_108 (s_X8_greatestFree _ h9_9) rfl (by decide) rfl (lt141 (by decide)) rx131 (Nat.le_of_ble_eq_true rfl) (Nat.le_of_ble_eq_true rfl) (Nat.le_of_ble_eq_true rfl) dX8_lends_65 rfl ?_
          refine K.iconst (q := 69) (v := 2) dX8_lends_68 rfl (by decide) ?_
          obtain ⟨v10, X10, h9_10, h⟩ := bnd2_inv h
          refine K.callV0 (q := 72) mkX8_refused mw_X8_101 (s_X8_refused _ _ _ _ h9_10) rfl (by decide) rfl (lt141 (by decide)) rx131 (Nat.le_of_ble_eq_true rfl) (Nat.le_of_ble_eq_true rfl) (Nat.le_of_ble_eq_true rfl) dX8_lends_69 rfl ?_
          obtain ⟨e_vo, e_Xo⟩ := ret2_inv h
          exact C.iret rfl rfl (congrArg (fun z => Sum.inl (some (Value.int z))) e_vo.symm) (congrArg mkH e_Xo) (Nat.le_of_ble_eq_true rfl) (Nat.le_of_ble_eq_true rfl) dX8_lends_72
        · rw [if_neg c_46_8] at h
          refine K.aload_n (q := 50) dX8_lends_49 rfl rfl ?_
          refine K.aload_n (q := 51) dX8_lends_50 rfl rfl ?_
          refine K.iload_n (q := 52) dX8_lends_51 rfl rfl ?_
          refine K.iload_n (q := 53) dX8_lends_52 rfl rfl ?_
          obtain ⟨v11, X11, h9_11, h⟩ := bnd2_inv h
          refine K.callV0 (q := 56) mkX8_lendsTo mw_X8_85 (s_X8_lendsTo _ _ _ h9_11) rfl (by decide) rfl (lt141 (by decide)) rx131 (Nat.le_of_ble_eq_true rfl) (Nat.le_of_ble_eq_true rfl) (Nat.le_of_ble_eq_true rfl) dX8_lends_53 rfl ?_
          obtain ⟨v12, X12, h9_12, h⟩ := bnd2_inv h
          refine K.callV0 (q := 59) mkX8_done mw_X8_105 (s_X8_done _ _ h9_12) rfl (by decide) rfl (lt141 (by decide)) rx131 (Nat.le_of_ble_eq_true rfl) (Nat.le_of_ble_eq_true rfl) (Nat.le_of_ble_eq_true rfl) dX8_lends_56 rfl ?_
          refine K.goto (tgt := 72) dX8_lends_59 (by decide) ?_
          obtain ⟨e_vo, e_Xo⟩ := ret2_inv h
          exact C.iret rfl rfl (congrArg (fun z => Sum.inl (some (Value.int z))) e_vo.symm) (congrArg mkH e_Xo) (Nat.le_of_ble_eq_true rfl) (Nat.le_of_ble_eq_true rfl) dX8_lends_72
      · rw [if_pos c_29_6] at h
        refine K.aload_n (q := 33) dX8_lends_32 rfl rfl ?_
        refine K.iconst (q := 34) (v := 1) dX8_lends_33 rfl (by decide) ?_
        refine K.bipush (q := 36) (v := 16) dX8_lends_34 rfl (by decide) ?_
        refine K.iconst (q := 37) (v := 2) dX8_lends_36 rfl (by decide) ?_
        obtain ⟨v13, X13, h9_13, h⟩ := bnd2_inv h
        refine K.callV0 (q := 40) mkX8_refused mw_X8_101 (s_X8_refused _ _ _ _ h9_13) rfl (by decide) rfl (lt141 (by decide)) rx131 (Nat.le_of_ble_eq_true rfl) (Nat.le_of_ble_eq_true rfl) (Nat.le_of_ble_eq_true rfl) dX8_lends_37 rfl ?_
        obtain ⟨e_vo, e_Xo⟩ := ret2_inv h
        exact C.iret rfl rfl (congrArg (fun z => Sum.inl (some (Value.int z))) e_vo.symm) (congrArg mkH e_Xo) (Nat.le_of_ble_eq_true rfl) (Nat.le_of_ble_eq_true rfl) dX8_lends_40
    · rw [if_pos c_11_5] at h
      refine K.aload_n (q := 15) dX8_lends_14 rfl rfl ?_
      refine K.iconst (q := 16) (v := 1) dX8_lends_15 rfl (by decide) ?_
      obtain ⟨v14, X14, h9_14, h⟩ := bnd2_inv h
      refine K.callV0 (q := 19) mkX8_fails mw_X8_98 (s_X8_fails _ _ h9_14) rfl (by decide) rfl (lt141 (by decide)) rx131 (Nat.le_of_ble_eq_true rfl) (Nat.le_of_ble_eq_true rfl) (Nat.le_of_ble_eq_true rfl) dX8_lends_16 rfl ?_
      obtain ⟨e_vo, e_Xo⟩ := ret2_inv h
      exact C.iret rfl rfl (congrArg (fun z => Sum.inl (some (Value.int z))) e_vo.symm) (congrArg mkH e_Xo) (Nat.le_of_ble_eq_true rfl) (Nat.le_of_ble_eq_true rfl) dX8_lends_19

def m_X8_lend (X : GS) (name : Int32) (amount : Int32) : Option (Int32 × GS) := (bnd1 (m_X8_looksBack X) fun (X1 : GS) => (bnd2 (m_X8_lends X1 name amount) fun (v2 : Int32) (X2 : GS) => (bnd2 (m_X8_kept X2 v2) fun (v3 : Int32) (X3 : GS) => (some (v3, X3)))))
set_option maxRecDepth 20000 in
set_option maxHeartbeats 1000000 in
theorem s_X8_lend (X : GS) (name : Int32) (amount : Int32) {vo : Int32} {Xo : GS} (h : m_X8_lend X name amount = some (vo, Xo)) : Ct 6 0 0 yX8_lend (.code yX8_lend cX8_lend 3 (some (.int))) [.ref 131, .int name, .int amount] (mkH X) (.inl (some (.int vo))) (mkH Xo) := by
  refine Ct.of (LL := [some (.ref 131), some (.int name), some (.int amount)]) mkX8_lend.1 owX8_lend rfl (Nat.le_of_ble_eq_true rfl) rfl (fun Wk C => ?_)
  have K := C.core
  rw [m_X8_lend] at h
  refine K.aload_n (q := 1) dX8_lend_0 rfl rfl ?_
  obtain ⟨X1, h9_1, h⟩ := bnd1_inv h
  refine K.callVv0 (q := 4) mkX8_looksBack mw_X8_112 (s_X8_looksBack _ h9_1) rfl (by decide) rfl (lt141 (by decide)) rx131 (Nat.le_of_ble_eq_true rfl) (Nat.le_of_ble_eq_true rfl) (Nat.le_of_ble_eq_true rfl) dX8_lend_1 rfl ?_
  refine K.aload_n (q := 5) dX8_lend_4 rfl rfl ?_
  refine K.aload_n (q := 6) dX8_lend_5 rfl rfl ?_
  refine K.iload_n (q := 7) dX8_lend_6 rfl rfl ?_
  refine K.iload_n (q := 8) dX8_lend_7 rfl rfl ?_
  obtain ⟨v2, X2, h9_2, h⟩ := bnd2_inv h
  refine K.callV0 (q := 11) mkX8_lends mw_X8_115 (s_X8_lends _ _ _ h9_2) rfl (by decide) rfl (lt141 (by decide)) rx131 (Nat.le_of_ble_eq_true rfl) (Nat.le_of_ble_eq_true rfl) (Nat.le_of_ble_eq_true rfl) dX8_lend_8 rfl ?_
  obtain ⟨v3, X3, h9_3, h⟩ := bnd2_inv h
  refine K.callV0 (q := 14) mkX8_kept mw_X8_118 (s_X8_kept _ _ h9_3) rfl (by decide) rfl (lt141 (by decide)) rx131 (Nat.le_of_ble_eq_true rfl) (Nat.le_of_ble_eq_true rfl) (Nat.le_of_ble_eq_true rfl) dX8_lend_11 rfl ?_
  obtain ⟨e_vo, e_Xo⟩ := ret2_inv h
  exact C.iret rfl rfl (congrArg (fun z => Sum.inl (some (Value.int z))) e_vo.symm) (congrArg mkH e_Xo) (Nat.le_of_ble_eq_true rfl) (Nat.le_of_ble_eq_true rfl) dX8_lend_14

def m_X8_asks (X : GS) (name : Int32) (amount : Int32) : Option (Int32 × GS) := (bnd1 (m_X8_isName name) fun (v1 : Int32) => (if v1 = 0 then (bnd2 (m_X8_fails X 1) fun (v3 : Int32) (X3 : GS) => (some (v3, X3))) else (bnd1 (m_X8_isAmount amount) fun (v4 : Int32) => (if v4 = 0 then (bnd2 (m_X8_fails X 1) fun (v16 : Int32) (X16 : GS) => (some (v16, X16))) else (bnd1 (m_X8_canLend X amount) fun (v6 : Int32) => (if v6 = 0 then (if ((X.2.2.1 5) 113) = 6 then (bnd2 (m_X8_refused X 3 6 2) fun (v12 : Int32) (X12 : GS) => (some (v12, X12))) else (if inR (114 + ((X.2.2.1 5) 113)) 129 then (if inR (120 + ((X.2.2.1 5) 113)) 129 then (bnd2 (m_X8_done (uA (uA (uA X 5 (up (X.2.2.1 5) ((114 + ((X.2.2.1 5) 113)).toNatClampNeg) name)) 5 (up (up (X.2.2.1 5) ((114 + ((X.2.2.1 5) 113)).toNatClampNeg) name) ((120 + ((X.2.2.1 5) 113)).toNatClampNeg) amount)) 5 (up (up (up (X.2.2.1 5) ((114 + ((X.2.2.1 5) 113)).toNatClampNeg) name) ((120 + ((X.2.2.1 5) 113)).toNatClampNeg) amount) 113 (((up (up (X.2.2.1 5) ((114 + ((X.2.2.1 5) 113)).toNatClampNeg) name) ((120 + ((X.2.2.1 5) 113)).toNatClampNeg) amount) 113) + 1))) (-1)) fun (v11 : Int32) (X11 : GS) => (some (v11, X11))) else none) else none)) else (bnd2 (m_X8_lendsTo X name amount) fun (v13 : Int32) (X13 : GS) => (if inR (97 + v13) 129 then (bnd2 (m_X8_done X13 ((X13.2.2.1 5) ((97 + v13).toNatClampNeg))) fun (v15 : Int32) (X15 : GS) => (some (v15, X15))) else none))))))))
set_option maxRecDepth 20000 in
set_option maxHeartbeats 1000000 in
theorem s_X8_asks (X : GS) (name : Int32) (amount : Int32) {vo : Int32} {Xo : GS} (h : m_X8_asks X name amount = some (vo, Xo)) : Ct 5 0 0 yX8_asks (.code yX8_asks cX8_asks 4 (some (.int))) [.ref 131, .int name, .int amount] (mkH X) (.inl (some (.int vo))) (mkH Xo) := by
  refine Ct.of (LL := [some (.ref 131), some (.int name), some (.int amount), none]) mkX8_asks.1 owX8_asks rfl (Nat.le_of_ble_eq_true rfl) rfl (fun Wk C => ?_)
  have K := C.core
  rw [m_X8_asks] at h
  refine K.iload_n (q := 1) dX8_asks_0 rfl rfl ?_
  obtain ⟨v1, h9_1, h⟩ := bnd1_inv h
  refine K.callS0 (q := 4) mkX8_isName mw_X8_92 (s_X8_isName _ _ h9_1) rfl (by decide) rfl (Nat.le_of_ble_eq_true rfl) (Nat.le_of_ble_eq_true rfl) (Nat.le_of_ble_eq_true rfl) dX8_asks_1 rfl ?_
  refine K.if_eq (q := 7) (tgt := 14) dX8_asks_4 rfl (by decide) (fun c_4_2 => ?_) (fun c_4_2 => ?_)
  · rw [if_pos c_4_2] at h
    refine K.aload_n (q := 15) dX8_asks_14 rfl rfl ?_
    refine K.iconst (q := 16) (v := 1) dX8_asks_15 rfl (by decide) ?_
    obtain ⟨v3, X3, h9_3, h⟩ := bnd2_inv h
    refine K.callV0 (q := 19) mkX8_fails mw_X8_98 (s_X8_fails _ _ h9_3) rfl (by decide) rfl (lt141 (by decide)) rx131 (Nat.le_of_ble_eq_true rfl) (Nat.le_of_ble_eq_true rfl) (Nat.le_of_ble_eq_true rfl) dX8_asks_16 rfl ?_
    obtain ⟨e_vo, e_Xo⟩ := ret2_inv h
    exact C.iret rfl rfl (congrArg (fun z => Sum.inl (some (Value.int z))) e_vo.symm) (congrArg mkH e_Xo) (Nat.le_of_ble_eq_true rfl) (Nat.le_of_ble_eq_true rfl) dX8_asks_19
  · rw [if_neg c_4_2] at h
    refine K.iload_n (q := 8) dX8_asks_7 rfl rfl ?_
    obtain ⟨v4, h9_4, h⟩ := bnd1_inv h
    refine K.callS0 (q := 11) mkX8_isAmount mw_X8_95 (s_X8_isAmount _ _ h9_4) rfl (by decide) rfl (Nat.le_of_ble_eq_true rfl) (Nat.le_of_ble_eq_true rfl) (Nat.le_of_ble_eq_true rfl) dX8_asks_8 rfl ?_
    refine K.if_ne (q := 14) (tgt := 20) dX8_asks_11 rfl (by decide) (fun c_11_5 => ?_) (fun c_11_5 => ?_)
    · rw [if_neg c_11_5] at h
      refine K.aload_n (q := 21) dX8_asks_20 rfl rfl ?_
      refine K.iload_n (q := 22) dX8_asks_21 rfl rfl ?_
      obtain ⟨v6, h9_6, h⟩ := bnd1_inv h
      refine K.callV0 (q := 25) mkX8_canLend mw_X8_82 (s_X8_canLend _ _ h9_6) rfl (by decide) rfl (lt141 (by decide)) rx131 (Nat.le_of_ble_eq_true rfl) (Nat.le_of_ble_eq_true rfl) (Nat.le_of_ble_eq_true rfl) dX8_asks_22 rfl ?_
      refine K.if_eq (q := 28) (tgt := 47) dX8_asks_25 rfl (by decide) (fun c_25_7 => ?_) (fun c_25_7 => ?_)
      · rw [if_pos c_25_7] at h
        refine K.aload_n (q := 48) dX8_asks_47 rfl rfl ?_
        refine K.getf (q := 51) (v := .ref 132) fo_X8_7.r rx131 (lt141 (by decide)) rfl dX8_asks_48 rfl ?_
        refine K.bipush (q := 53) (v := 113) dX8_asks_51 rfl (by decide) ?_
        refine K.ial (q := 54) (f := (X.2.2.1 5)) (m := 113) rx132 (lt141 (by decide)) rfl (by decide) (by decide) dX8_asks_53 rfl ?_
        refine K.istore_n (q := 55) (i := 3) dX8_asks_54 rfl rfl (by decide) rfl ?_
        refine K.iload_n (q := 56) dX8_asks_55 rfl rfl ?_
        refine K.bipush (q := 58) (v := 6) dX8_asks_56 rfl (by decide) ?_
        refine K.icmp_ne (q := 61) (tgt := 70) dX8_asks_58 rfl (by decide) (fun c_58_8 => ?_) (fun c_58_8 => ?_)
        · rw [if_neg c_58_8] at h
          refine K.aload_n (q := 71) dX8_asks_70 rfl rfl ?_
          refine K.getf (q := 74) (v := .ref 132) fo_X8_7.r rx131 (lt141 (by decide)) rfl dX8_asks_71 rfl ?_
          refine K.bipush (q := 76) (v := 114) dX8_asks_74 rfl (by decide) ?_
          refine K.iload_n (q := 77) dX8_asks_76 rfl rfl ?_
          refine K.iadd (q := 78) dX8_asks_77 rfl ?_
          refine K.iload_n (q := 79) dX8_asks_78 rfl rfl ?_
          obtain ⟨k_9, h⟩ := chk_inv h
          refine K.ias (q := 80) (f := (X.2.2.1 5)) (m := ((114 + ((X.2.2.1 5) 113)).toNatClampNeg)) rx132 (lt141 (by decide)) (cl_nI k_9.1) k_9.2 (by decide) pxa5 dX8_asks_79 rfl ?_
          refine K.aload_n (q := 81) dX8_asks_80 rfl rfl ?_
          refine K.getf (q := 84) (v := .ref 132) fo_X8_7.r rx131 (lt141 (by decide)) rfl dX8_asks_81 rfl ?_
          refine K.bipush (q := 86) (v := 120) dX8_asks_84 rfl (by decide) ?_
          refine K.iload_n (q := 87) dX8_asks_86 rfl rfl ?_
          refine K.iadd (q := 88) dX8_asks_87 rfl ?_
          refine K.iload_n (q := 89) dX8_asks_88 rfl rfl ?_
          obtain ⟨k_10, h⟩ := chk_inv h
          refine K.ias (q := 90) (f := (up (X.2.2.1 5) ((114 + ((X.2.2.1 5) 113)).toNatClampNeg) name)) (m := ((120 + ((X.2.2.1 5) 113)).toNatClampNeg)) rx132 (lt141 (by decide)) (cl_nI k_10.1) k_10.2 (by decide) pxa5 dX8_asks_89 rfl ?_
          refine K.aload_n (q := 91) dX8_asks_90 rfl rfl ?_
          refine K.getf (q := 94) (v := .ref 132) fo_X8_7.r rx131 (lt141 (by decide)) rfl dX8_asks_91 rfl ?_
          refine K.bipush (q := 96) (v := 113) dX8_asks_94 rfl (by decide) ?_
          refine K.dup2 (q := 97) dX8_asks_96 rfl rfl rfl ?_
          refine K.ial (q := 98) (f := (up (up (X.2.2.1 5) ((114 + ((X.2.2.1 5) 113)).toNatClampNeg) name) ((120 + ((X.2.2.1 5) 113)).toNatClampNeg) amount)) (m := 113) rx132 (lt141 (by decide)) rfl (by decide) (by decide) dX8_asks_97 rfl ?_
          refine K.iconst (q := 99) (v := 1) dX8_asks_98 rfl (by decide) ?_
          refine K.iadd (q := 100) dX8_asks_99 rfl ?_
          refine K.ias (q := 101) (f := (up (up (X.2.2.1 5) ((114 + ((X.2.2.1 5) 113)).toNatClampNeg) name) ((120 + ((X.2.2.1 5) 113)).toNatClampNeg) amount)) (m := 113) rx132 (lt141 (by decide)) rfl (by decide) (by decide) pxa5 dX8_asks_100 rfl ?_
          refine K.aload_n (q := 102) dX8_asks_101 rfl rfl ?_
          refine K.iconst (q := 103) (v := (-1)) dX8_asks_102 rfl (by decide) ?_
          obtain ⟨v11, X11, h9_11, h⟩ := bnd2_inv h
          refine K.callV0 (q := 106) mkX8_done mw_X8_105 (s_X8_done _ _ h9_11) rfl (by decide) rfl (lt141 (by decide)) rx131 (Nat.le_of_ble_eq_true rfl) (Nat.le_of_ble_eq_true rfl) (Nat.le_of_ble_eq_true rfl) dX8_asks_103 rfl ?_
          obtain ⟨e_vo, e_Xo⟩ := ret2_inv h
          exact C.iret rfl rfl (congrArg (fun z => Sum.inl (some (Value.int z))) e_vo.symm) (congrArg mkH e_Xo) (Nat.le_of_ble_eq_true rfl) (Nat.le_of_ble_eq_true rfl) dX8_asks_106
        · rw [if_pos c_58_8] at h
          refine K.aload_n (q := 62) dX8_asks_61 rfl rfl ?_
          refine K.iconst (q := 63) (v := 3) dX8_asks_62 rfl (by decide) ?_
          refine K.bipush (q := 65) (v := 6) dX8_asks_63 rfl (by decide) ?_
          refine K.iconst (q := 66) (v := 2) dX8_asks_65 rfl (by decide) ?_
          obtain ⟨v12, X12, h9_12, h⟩ := bnd2_inv h
          refine K.callV0 (q := 69) mkX8_refused mw_X8_101 (s_X8_refused _ _ _ _ h9_12) rfl (by decide) rfl (lt141 (by decide)) rx131 (Nat.le_of_ble_eq_true rfl) (Nat.le_of_ble_eq_true rfl) (Nat.le_of_ble_eq_true rfl) dX8_asks_66 rfl ?_
          obtain ⟨e_vo, e_Xo⟩ := ret2_inv h
          exact C.iret rfl rfl (congrArg (fun z => Sum.inl (some (Value.int z))) e_vo.symm) (congrArg mkH e_Xo) (Nat.le_of_ble_eq_true rfl) (Nat.le_of_ble_eq_true rfl) dX8_asks_69
      · rw [if_neg c_25_7] at h
        refine K.aload_n (q := 29) dX8_asks_28 rfl rfl ?_
        refine K.aload_n (q := 30) dX8_asks_29 rfl rfl ?_
        refine K.getf (q := 33) (v := .ref 132) fo_X8_7.r rx131 (lt141 (by decide)) rfl dX8_asks_30 rfl ?_
        refine K.bipush (q := 35) (v := 97) dX8_asks_33 rfl (by decide) ?_
        refine K.aload_n (q := 36) dX8_asks_35 rfl rfl ?_
        refine K.iload_n (q := 37) dX8_asks_36 rfl rfl ?_
        refine K.iload_n (q := 38) dX8_asks_37 rfl rfl ?_
        obtain ⟨v13, X13, h9_13, h⟩ := bnd2_inv h
        refine K.callV0 (q := 41) mkX8_lendsTo mw_X8_85 (s_X8_lendsTo _ _ _ h9_13) rfl (by decide) rfl (lt141 (by decide)) rx131 (Nat.le_of_ble_eq_true rfl) (Nat.le_of_ble_eq_true rfl) (Nat.le_of_ble_eq_true rfl) dX8_asks_38 rfl ?_
        refine K.iadd (q := 42) dX8_asks_41 rfl ?_
        obtain ⟨k_14, h⟩ := chk_inv h
        refine K.ial (q := 43) (f := (X13.2.2.1 5)) (m := ((97 + v13).toNatClampNeg)) rx132 (lt141 (by decide)) (cl_nI k_14.1) k_14.2 (by decide) dX8_asks_42 rfl ?_
        obtain ⟨v15, X15, h9_15, h⟩ := bnd2_inv h
        refine K.callV0 (q := 46) mkX8_done mw_X8_105 (s_X8_done _ _ h9_15) rfl (by decide) rfl (lt141 (by decide)) rx131 (Nat.le_of_ble_eq_true rfl) (Nat.le_of_ble_eq_true rfl) (Nat.le_of_ble_eq_true rfl) dX8_asks_43 rfl ?_
        obtain ⟨e_vo, e_Xo⟩ := ret2_inv h
        exact C.iret rfl rfl (congrArg (fun z => Sum.inl (some (Value.int z))) e_vo.symm) (congrArg mkH e_Xo) (Nat.le_of_ble_eq_true rfl) (Nat.le_of_ble_eq_true rfl) dX8_asks_46
    · rw [if_pos c_11_5] at h
      refine K.aload_n (q := 15) dX8_asks_14 rfl rfl ?_
      refine K.iconst (q := 16) (v := 1) dX8_asks_15 rfl (by decide) ?_
      obtain ⟨v16, X16, h9_16, h⟩ := bnd2_inv h
      refine K.callV0 (q := 19) mkX8_fails mw_X8_98 (s_X8_fails _ _ h9_16) rfl (by decide) rfl (lt141 (by decide)) rx131 (Nat.le_of_ble_eq_true rfl) (Nat.le_of_ble_eq_true rfl) (Nat.le_of_ble_eq_true rfl) dX8_asks_16 rfl ?_
      obtain ⟨e_vo, e_Xo⟩ := ret2_inv h
      exact C.iret rfl rfl (congrArg (fun z => Sum.inl (some (Value.int z))) e_vo.symm) (congrArg mkH e_Xo) (Nat.le_of_ble_eq_true rfl) (Nat.le_of_ble_eq_true rfl) dX8_asks_19

def m_X8_ask (X : GS) (name : Int32) (amount : Int32) : Option (Int32 × GS) := (bnd1 (m_X8_looksBack X) fun (X1 : GS) => (bnd2 (m_X8_asks X1 name amount) fun (v2 : Int32) (X2 : GS) => (bnd2 (m_X8_kept X2 v2) fun (v3 : Int32) (X3 : GS) => (some (v3, X3)))))
set_option maxRecDepth 20000 in
set_option maxHeartbeats 1000000 in
theorem s_X8_ask (X : GS) (name : Int32) (amount : Int32) {vo : Int32} {Xo : GS} (h : m_X8_ask X name amount = some (vo, Xo)) : Ct 6 0 0 yX8_ask (.code yX8_ask cX8_ask 3 (some (.int))) [.ref 131, .int name, .int amount] (mkH X) (.inl (some (.int vo))) (mkH Xo) := by
  refine Ct.of (LL := [some (.ref 131), some (.int name), some (.int amount)]) mkX8_ask.1 owX8_ask rfl (Nat.le_of_ble_eq_true rfl) rfl (fun Wk C => ?_)
  have K := C.core
  rw [m_X8_ask] at h
  refine K.aload_n (q := 1) dX8_ask_0 rfl rfl ?_
  obtain ⟨X1, h9_1, h⟩ := bnd1_inv h
  refine K.callVv0 (q := 4) mkX8_looksBack mw_X8_112 (s_X8_looksBack _ h9_1) rfl (by decide) rfl (lt141 (by decide)) rx131 (Nat.le_of_ble_eq_true rfl) (Nat.le_of_ble_eq_true rfl) (Nat.le_of_ble_eq_true rfl) dX8_ask_1 rfl ?_
  refine K.aload_n (q := 5) dX8_ask_4 rfl rfl ?_
  refine K.aload_n (q := 6) dX8_ask_5 rfl rfl ?_
  refine K.iload_n (q := 7) dX8_ask_6 rfl rfl ?_
  refine K.iload_n (q := 8) dX8_ask_7 rfl rfl ?_
  obtain ⟨v2, X2, h9_2, h⟩ := bnd2_inv h
  refine K.callV0 (q := 11) mkX8_asks mw_X8_121 (s_X8_asks _ _ _ h9_2) rfl (by decide) rfl (lt141 (by decide)) rx131 (Nat.le_of_ble_eq_true rfl) (Nat.le_of_ble_eq_true rfl) (Nat.le_of_ble_eq_true rfl) dX8_ask_8 rfl ?_
  obtain ⟨v3, X3, h9_3, h⟩ := bnd2_inv h
  refine K.callV0 (q := 14) mkX8_kept mw_X8_118 (s_X8_kept _ _ h9_3) rfl (by decide) rfl (lt141 (by decide)) rx131 (Nat.le_of_ble_eq_true rfl) (Nat.le_of_ble_eq_true rfl) (Nat.le_of_ble_eq_true rfl) dX8_ask_11 rfl ?_
  obtain ⟨e_vo, e_Xo⟩ := ret2_inv h
  exact C.iret rfl rfl (congrArg (fun z => Sum.inl (some (Value.int z))) e_vo.symm) (congrArg mkH e_Xo) (Nat.le_of_ble_eq_true rfl) (Nat.le_of_ble_eq_true rfl) dX8_ask_14

def lp_X8_comesBack_33 (a3_24 : Int32) : Nat → Int32 → GS → Option (Int32 × GS)
  | 0, _, _ => none
  | j33 + 1, a4_33, XX33 => (if ((XX33.2.2.1 5) 64) ≤ a4_33 then (some (a4_33, XX33)) else (if inR ((a3_24 + a4_33) + 1) 129 then (if inR (a3_24 + a4_33) 129 then (lp_X8_comesBack_33 a3_24 j33 (a4_33 + 1) (uA XX33 5 (up (XX33.2.2.1 5) ((a3_24 + a4_33).toNatClampNeg) ((XX33.2.2.1 5) (((a3_24 + a4_33) + 1).toNatClampNeg))))) else none) else none))

def lp_X8_comesBack_24 (loan : Int32) : Nat → Int32 → GS → Option (Int32 × GS)
  | 0, _, _ => none
  | j24 + 1, a3_24, XX24 => (if 113 ≤ a3_24 then (some (a3_24, XX24)) else (bnd2 (lp_X8_comesBack_33 a3_24 1000 loan XX24) fun (a4_33_6 : Int32) (XX33_6 : GS) => (if inR (a3_24 + ((XX33_6.2.2.1 5) 64)) 129 then (lp_X8_comesBack_24 loan j24 (a3_24 + 16) (uA XX33_6 5 (up (XX33_6.2.2.1 5) ((a3_24 + ((XX33_6.2.2.1 5) 64)).toNatClampNeg) 0))) else none)))

def m_X8_comesBack (X : GS) (loan : Int32) : Option (GS) := (if inR (97 + loan) 129 then (bnd2 (lp_X8_comesBack_24 loan 1000 65 (uA X 5 (up (X.2.2.1 5) 64 (((X.2.2.1 5) 64) - 1)))) fun (a3_24_8 : Int32) (XX24_8 : GS) => (bnd1 (m_X8_joins XX24_8 ((X.2.2.1 5) ((97 + loan).toNatClampNeg))) fun (X9 : GS) => (some X9))) else none)
set_option maxRecDepth 20000 in
set_option maxHeartbeats 1000000 in
theorem s_X8_comesBack (X : GS) (loan : Int32) {Xo : GS} (h : m_X8_comesBack X loan = some Xo) : Ct 3 0 0 yX8_comesBack (.code yX8_comesBack cX8_comesBack 5 none) [.ref 131, .int loan] (mkH X) (.inl none) (mkH Xo) := by
  refine Ct.of (LL := [some (.ref 131), some (.int loan), none, none, none]) mkX8_comesBack.1 owX8_comesBack rfl (Nat.le_of_ble_eq_true rfl) rfl (fun Wk C => ?_)
  have K := C.core
  rw [m_X8_comesBack] at h
  refine K.aload_n (q := 1) dX8_comesBack_0 rfl rfl ?_
  refine K.getf (q := 4) (v := .ref 132) fo_X8_7.r rx131 (lt141 (by decide)) rfl dX8_comesBack_1 rfl ?_
  refine K.bipush (q := 6) (v := 97) dX8_comesBack_4 rfl (by decide) ?_
  refine K.iload_n (q := 7) dX8_comesBack_6 rfl rfl ?_
  refine K.iadd (q := 8) dX8_comesBack_7 rfl ?_
  obtain ⟨k_1, h⟩ := chk_inv h
  refine K.ial (q := 9) (f := (X.2.2.1 5)) (m := ((97 + loan).toNatClampNeg)) rx132 (lt141 (by decide)) (cl_nI k_1.1) k_1.2 (by decide) dX8_comesBack_8 rfl ?_
  refine K.istore_n (q := 10) (i := 2) dX8_comesBack_9 rfl rfl (by decide) rfl ?_
  refine K.aload_n (q := 11) dX8_comesBack_10 rfl rfl ?_
  refine K.getf (q := 14) (v := .ref 132) fo_X8_7.r rx131 (lt141 (by decide)) rfl dX8_comesBack_11 rfl ?_
  refine K.bipush (q := 16) (v := 64) dX8_comesBack_14 rfl (by decide) ?_
  refine K.dup2 (q := 17) dX8_comesBack_16 rfl rfl rfl ?_
  refine K.ial (q := 18) (f := (X.2.2.1 5)) (m := 64) rx132 (lt141 (by decide)) rfl (by decide) (by decide) dX8_comesBack_17 rfl ?_
  refine K.iconst (q := 19) (v := 1) dX8_comesBack_18 rfl (by decide) ?_
  refine K.isub (q := 20) dX8_comesBack_19 rfl ?_
  refine K.ias (q := 21) (f := (X.2.2.1 5)) (m := 64) rx132 (lt141 (by decide)) rfl (by decide) (by decide) pxa5 dX8_comesBack_20 rfl ?_
  refine K.bipush (q := 23) (v := 65) dX8_comesBack_21 rfl (by decide) ?_
  refine K.istore_n (q := 24) (i := 3) dX8_comesBack_23 rfl rfl (by decide) rfl ?_
  have L24 : ∀ (j24 : Nat) (a3_24 : Int32) (XX24 : GS) (a3_24r : Int32) (XX24r : GS), lp_X8_comesBack_24 loan j24 a3_24 XX24 = some (a3_24r, XX24r) → (Wk 0 0 92 [some (.ref 131), some (.int loan), some (.int ((X.2.2.1 5) ((97 + loan).toNatClampNeg))), some (.int a3_24r), none] [] (mkH XX24r)) → Wk 0 0 24 [some (.ref 131), some (.int loan), some (.int ((X.2.2.1 5) ((97 + loan).toNatClampNeg))), some (.int a3_24), none] [] (mkH XX24) := by
    intro j24
    induction j24 with
    | zero =>
      intro a3_24 XX24 a3_24r XX24r h hx
      rw [lp_X8_comesBack_24] at h
      cases h
    | succ j24 ih =>
      intro a3_24 XX24 a3_24r XX24r h hx
      rw [lp_X8_comesBack_24] at h
      refine K.iload_n (q := 25) dX8_comesBack_24 rfl rfl ?_
      refine K.bipush (q := 27) (v := 113) dX8_comesBack_25 rfl (by decide) ?_
      refine K.icmp_ge (q := 30) (tgt := 92) dX8_comesBack_27 rfl (by decide) (fun c_27_2 => ?_) (fun c_27_2 => ?_)
      · rw [if_pos c_27_2] at h
        obtain ⟨q0, q1⟩ := ret2_inv h
        subst q0; subst q1
        exact hx
      · rw [if_neg c_27_2] at h
        refine K.iload_n (q := 31) dX8_comesBack_30 rfl rfl ?_
        refine K.istore (q := 33) dX8_comesBack_31 rfl (by decide) rfl ?_
        have L33 : ∀ (j33 : Nat) (a4_33 : Int32) (XX33 : GS) (a4_33r : Int32) (XX33r : GS), lp_X8_comesBack_33 a3_24 j33 a4_33 XX33 = some (a4_33r, XX33r) → (Wk 0 0 71 [some (.ref 131), some (.int loan), some (.int ((X.2.2.1 5) ((97 + loan).toNatClampNeg))), some (.int a3_24), some (.int a4_33r)] [] (mkH XX33r)) → Wk 0 0 33 [some (.ref 131), some (.int loan), some (.int ((X.2.2.1 5) ((97 + loan).toNatClampNeg))), some (.int a3_24), some (.int a4_33)] [] (mkH XX33) := by
          intro j33
          induction j33 with
          | zero =>
            intro a4_33 XX33 a4_33r XX33r h hx
            rw [lp_X8_comesBack_33] at h
            cases h
          | succ j33 ih =>
            intro a4_33 XX33 a4_33r XX33r h hx
            rw [lp_X8_comesBack_33] at h
            refine K.iload (q := 35) dX8_comesBack_33 rfl rfl ?_
            refine K.aload_n (q := 36) dX8_comesBack_35 rfl rfl ?_
            refine K.getf (q := 39) (v := .ref 132) fo_X8_7.r rx131 (lt141 (by decide)) rfl dX8_comesBack_36 rfl ?_
            refine K.bipush (q := 41) (v := 64) dX8_comesBack_39 rfl (by decide) ?_
            refine K.ial (q := 42) (f := (XX33.2.2.1 5)) (m := 64) rx132 (lt141 (by decide)) rfl (by decide) (by decide) dX8_comesBack_41 rfl ?_
            refine K.icmp_ge (q := 45) (tgt := 71) dX8_comesBack_42 rfl (by decide) (fun c_42_3 => ?_) (fun c_42_3 => ?_)
            · rw [if_pos c_42_3] at h
              obtain ⟨q0, q1⟩ := ret2_inv h
              subst q0; subst q1
              exact hx
            · rw [if_neg c_42_3] at h
              refine K.aload_n (q := 46) dX8_comesBack_45 rfl rfl ?_
              refine K.getf (q := 49) (v := .ref 132) fo_X8_7.r rx131 (lt141 (by decide)) rfl dX8_comesBack_46 rfl ?_
              refine K.iload_n (q := 50) dX8_comesBack_49 rfl rfl ?_
              refine K.iload (q := 52) dX8_comesBack_50 rfl rfl ?_
              refine K.iadd (q := 53) dX8_comesBack_52 rfl ?_
              refine K.aload_n (q := 54) dX8_comesBack_53 rfl rfl ?_
              refine K.getf (q := 57) (v := .ref 132) fo_X8_7.r rx131 (lt141 (by decide)) rfl dX8_comesBack_54 rfl ?_
              refine K.iload_n (q := 58) dX8_comesBack_57 rfl rfl ?_
              refine K.iload (q := 60) dX8_comesBack_58 rfl rfl ?_
              refine K.iadd (q := 61) dX8_comesBack_60 rfl ?_
              refine K.iconst (q := 62) (v := 1) dX8_comesBack_61 rfl (by decide) ?_
              refine K.iadd (q := 63) dX8_comesBack_62 rfl ?_
              obtain ⟨k_4, h⟩ := chk_inv h
              refine K.ial (q := 64) (f := (XX33.2.2.1 5)) (m := (((a3_24 + a4_33) + 1).toNatClampNeg)) rx132 (lt141 (by decide)) (cl_nI k_4.1) k_4.2 (by decide) dX8_comesBack_63 rfl ?_
              obtain ⟨k_5, h⟩ := chk_inv h
              refine K.ias (q := 65) (f := (XX33.2.2.1 5)) (m := ((a3_24 + a4_33).toNatClampNeg)) rx132 (lt141 (by decide)) (cl_nI k_5.1) k_5.2 (by decide) pxa5 dX8_comesBack_64 rfl ?_
              refine K.iinc (q := 68) (v := (a4_33 + 1)) dX8_comesBack_65 rfl rfl rfl (by decide) rfl ?_
              refine K.goto (tgt := 33) dX8_comesBack_68 (by decide) ?_
              exact ih (a4_33 + 1) (uA XX33 5 (up (XX33.2.2.1 5) ((a3_24 + a4_33).toNatClampNeg) ((XX33.2.2.1 5) (((a3_24 + a4_33) + 1).toNatClampNeg)))) _ _ h hx
        obtain ⟨a4_33_6, XX33_6, h9_6, h⟩ := bnd2_inv h
        refine L33 1000 loan XX24 _ _ h9_6 ?_
        refine K.aload_n (q := 72) dX8_comesBack_71 rfl rfl ?_
        refine K.getf (q := 75) (v := .ref 132) fo_X8_7.r rx131 (lt141 (by decide)) rfl dX8_comesBack_72 rfl ?_
        refine K.iload_n (q := 76) dX8_comesBack_75 rfl rfl ?_
        refine K.aload_n (q := 77) dX8_comesBack_76 rfl rfl ?_
        refine K.getf (q := 80) (v := .ref 132) fo_X8_7.r rx131 (lt141 (by decide)) rfl dX8_comesBack_77 rfl ?_
        refine K.bipush (q := 82) (v := 64) dX8_comesBack_80 rfl (by decide) ?_
        refine K.ial (q := 83) (f := (XX33_6.2.2.1 5)) (m := 64) rx132 (lt141 (by decide)) rfl (by decide) (by decide) dX8_comesBack_82 rfl ?_
        refine K.iadd (q := 84) dX8_comesBack_83 rfl ?_
        refine K.iconst (q := 85) (v := 0) dX8_comesBack_84 rfl (by decide) ?_
        obtain ⟨k_7, h⟩ := chk_inv h
        refine K.ias (q := 86) (f := (XX33_6.2.2.1 5)) (m := ((a3_24 + ((XX33_6.2.2.1 5) 64)).toNatClampNeg)) rx132 (lt141 (by decide)) (cl_nI k_7.1) k_7.2 (by decide) pxa5 dX8_comesBack_85 rfl ?_
        refine K.iinc (q := 89) (v := (a3_24 + 16)) dX8_comesBack_86 rfl rfl rfl (by decide) rfl ?_
        refine K.goto (tgt := 24) dX8_comesBack_89 (by decide) ?_
        refine K.drop 4 ?_
        exact ih (a3_24 + 16) (uA XX33_6 5 (up (XX33_6.2.2.1 5) ((a3_24 + ((XX33_6.2.2.1 5) 64)).toNatClampNeg) 0)) _ _ h hx
  obtain ⟨a3_24_8, XX24_8, h9_8, h⟩ := bnd2_inv h
  refine L24 1000 65 (uA X 5 (up (X.2.2.1 5) 64 (((X.2.2.1 5) 64) - 1))) _ _ h9_8 ?_
  refine K.aload_n (q := 93) dX8_comesBack_92 rfl rfl ?_
  refine K.iload_n (q := 94) dX8_comesBack_93 rfl rfl ?_
  obtain ⟨X9, h9_9, h⟩ := bnd1_inv h
  refine K.callVv0 (q := 97) mkX8_joins mw_X8_124 (s_X8_joins _ _ h9_9) rfl (by decide) rfl (lt141 (by decide)) rx131 (Nat.le_of_ble_eq_true rfl) (Nat.le_of_ble_eq_true rfl) (Nat.le_of_ble_eq_true rfl) dX8_comesBack_94 rfl ?_
  obtain e_Xo := ret1_inv h
  exact C.vret rfl rfl (congrArg mkH e_Xo) (Nat.le_of_ble_eq_true rfl) (Nat.le_of_ble_eq_true rfl) dX8_comesBack_97

def m_X8_gives (X : GS) (loan : Int32) : Option (Int32 × GS) := (bnd1 (m_X8_isLoan X loan) fun (v1 : Int32) => (if v1 = 0 then (bnd2 (m_X8_fails X 1) fun (v6 : Int32) (X6 : GS) => (some (v6, X6))) else (bnd1 (m_X8_comesBack X loan) fun (X3 : GS) => (bnd2 (m_X8_serves X3) fun (v4 : Int32) (X4 : GS) => (bnd2 (m_X8_done X4 v4) fun (v5 : Int32) (X5 : GS) => (some (v5, X5)))))))
set_option maxRecDepth 20000 in
set_option maxHeartbeats 1000000 in
theorem s_X8_gives (X : GS) (loan : Int32) {vo : Int32} {Xo : GS} (h : m_X8_gives X loan = some (vo, Xo)) : Ct 6 0 0 yX8_gives (.code yX8_gives cX8_gives 2 (some (.int))) [.ref 131, .int loan] (mkH X) (.inl (some (.int vo))) (mkH Xo) := by
  refine Ct.of (LL := [some (.ref 131), some (.int loan)]) mkX8_gives.1 owX8_gives rfl (Nat.le_of_ble_eq_true rfl) rfl (fun Wk C => ?_)
  have K := C.core
  rw [m_X8_gives] at h
  refine K.aload_n (q := 1) dX8_gives_0 rfl rfl ?_
  refine K.iload_n (q := 2) dX8_gives_1 rfl rfl ?_
  obtain ⟨v1, h9_1, h⟩ := bnd1_inv h
  refine K.callV0 (q := 5) mkX8_isLoan mw_X8_127 (s_X8_isLoan _ _ h9_1) rfl (by decide) rfl (lt141 (by decide)) rx131 (Nat.le_of_ble_eq_true rfl) (Nat.le_of_ble_eq_true rfl) (Nat.le_of_ble_eq_true rfl) dX8_gives_2 rfl ?_
  refine K.if_ne (q := 8) (tgt := 14) dX8_gives_5 rfl (by decide) (fun c_5_2 => ?_) (fun c_5_2 => ?_)
  · rw [if_neg c_5_2] at h
    refine K.aload_n (q := 15) dX8_gives_14 rfl rfl ?_
    refine K.iload_n (q := 16) dX8_gives_15 rfl rfl ?_
    obtain ⟨X3, h9_3, h⟩ := bnd1_inv h
    refine K.callVv0 (q := 19) mkX8_comesBack mw_X8_130 (s_X8_comesBack _ _ h9_3) rfl (by decide) rfl (lt141 (by decide)) rx131 (Nat.le_of_ble_eq_true rfl) (Nat.le_of_ble_eq_true rfl) (Nat.le_of_ble_eq_true rfl) dX8_gives_16 rfl ?_
    refine K.aload_n (q := 20) dX8_gives_19 rfl rfl ?_
    refine K.aload_n (q := 21) dX8_gives_20 rfl rfl ?_
    obtain ⟨v4, X4, h9_4, h⟩ := bnd2_inv h
    refine K.callV0 (q := 24) mkX8_serves mw_X8_133 (s_X8_serves _ h9_4) rfl (by decide) rfl (lt141 (by decide)) rx131 (Nat.le_of_ble_eq_true rfl) (Nat.le_of_ble_eq_true rfl) (Nat.le_of_ble_eq_true rfl) dX8_gives_21 rfl ?_
    obtain ⟨v5, X5, h9_5, h⟩ := bnd2_inv h
    refine K.callV0 (q := 27) mkX8_done mw_X8_105 (s_X8_done _ _ h9_5) rfl (by decide) rfl (lt141 (by decide)) rx131 (Nat.le_of_ble_eq_true rfl) (Nat.le_of_ble_eq_true rfl) (Nat.le_of_ble_eq_true rfl) dX8_gives_24 rfl ?_
    obtain ⟨e_vo, e_Xo⟩ := ret2_inv h
    exact C.iret rfl rfl (congrArg (fun z => Sum.inl (some (Value.int z))) e_vo.symm) (congrArg mkH e_Xo) (Nat.le_of_ble_eq_true rfl) (Nat.le_of_ble_eq_true rfl) dX8_gives_27
  · rw [if_pos c_5_2] at h
    refine K.aload_n (q := 9) dX8_gives_8 rfl rfl ?_
    refine K.iconst (q := 10) (v := 1) dX8_gives_9 rfl (by decide) ?_
    obtain ⟨v6, X6, h9_6, h⟩ := bnd2_inv h
    refine K.callV0 (q := 13) mkX8_fails mw_X8_98 (s_X8_fails _ _ h9_6) rfl (by decide) rfl (lt141 (by decide)) rx131 (Nat.le_of_ble_eq_true rfl) (Nat.le_of_ble_eq_true rfl) (Nat.le_of_ble_eq_true rfl) dX8_gives_10 rfl ?_
    obtain ⟨e_vo, e_Xo⟩ := ret2_inv h
    exact C.iret rfl rfl (congrArg (fun z => Sum.inl (some (Value.int z))) e_vo.symm) (congrArg mkH e_Xo) (Nat.le_of_ble_eq_true rfl) (Nat.le_of_ble_eq_true rfl) dX8_gives_13

def m_X8_give (X : GS) (loan : Int32) : Option (Int32 × GS) := (bnd1 (m_X8_looksBack X) fun (X1 : GS) => (bnd2 (m_X8_gives X1 loan) fun (v2 : Int32) (X2 : GS) => (bnd2 (m_X8_kept X2 v2) fun (v3 : Int32) (X3 : GS) => (some (v3, X3)))))
set_option maxRecDepth 20000 in
set_option maxHeartbeats 1000000 in
theorem s_X8_give (X : GS) (loan : Int32) {vo : Int32} {Xo : GS} (h : m_X8_give X loan = some (vo, Xo)) : Ct 7 0 0 yX8_give (.code yX8_give cX8_give 2 (some (.int))) [.ref 131, .int loan] (mkH X) (.inl (some (.int vo))) (mkH Xo) := by
  refine Ct.of (LL := [some (.ref 131), some (.int loan)]) mkX8_give.1 owX8_give rfl (Nat.le_of_ble_eq_true rfl) rfl (fun Wk C => ?_)
  have K := C.core
  rw [m_X8_give] at h
  refine K.aload_n (q := 1) dX8_give_0 rfl rfl ?_
  obtain ⟨X1, h9_1, h⟩ := bnd1_inv h
  refine K.callVv0 (q := 4) mkX8_looksBack mw_X8_112 (s_X8_looksBack _ h9_1) rfl (by decide) rfl (lt141 (by decide)) rx131 (Nat.le_of_ble_eq_true rfl) (Nat.le_of_ble_eq_true rfl) (Nat.le_of_ble_eq_true rfl) dX8_give_1 rfl ?_
  refine K.aload_n (q := 5) dX8_give_4 rfl rfl ?_
  refine K.aload_n (q := 6) dX8_give_5 rfl rfl ?_
  refine K.iload_n (q := 7) dX8_give_6 rfl rfl ?_
  obtain ⟨v2, X2, h9_2, h⟩ := bnd2_inv h
  refine K.callV0 (q := 10) mkX8_gives mw_X8_136 (s_X8_gives _ _ h9_2) rfl (by decide) rfl (lt141 (by decide)) rx131 (Nat.le_of_ble_eq_true rfl) (Nat.le_of_ble_eq_true rfl) (Nat.le_of_ble_eq_true rfl) dX8_give_7 rfl ?_
  obtain ⟨v3, X3, h9_3, h⟩ := bnd2_inv h
  refine K.callV0 (q := 13) mkX8_kept mw_X8_118 (s_X8_kept _ _ h9_3) rfl (by decide) rfl (lt141 (by decide)) rx131 (Nat.le_of_ble_eq_true rfl) (Nat.le_of_ble_eq_true rfl) (Nat.le_of_ble_eq_true rfl) dX8_give_10 rfl ?_
  obtain ⟨e_vo, e_Xo⟩ := ret2_inv h
  exact C.iret rfl rfl (congrArg (fun z => Sum.inl (some (Value.int z))) e_vo.symm) (congrArg mkH e_Xo) (Nat.le_of_ble_eq_true rfl) (Nat.le_of_ble_eq_true rfl) dX8_give_13

def lp_X8_waitingFor_4 (X : GS) (name : Int32) : Nat → Nat → Int32 → Option (Int32)
  | 0, _, a2_4 => some a2_4
  | j4 + 1, i4, a2_4 => (if (114 + i4) < 129 then (if ((X.2.2.1 5) ((114 + i4))) = name then (lp_X8_waitingFor_4 X name j4 (i4 + 1) (a2_4 + 1)) else (lp_X8_waitingFor_4 X name j4 (i4 + 1) (a2_4 + 0))) else none)

def m_X8_waitingFor (X : GS) (name : Int32) : Option (Int32) := (bnd1 (lp_X8_waitingFor_4 X name ((((X.2.2.1 5) 113)).toNatClampNeg) 0 0) fun (a2_4_5 : Int32) => (some a2_4_5))
set_option maxRecDepth 20000 in
set_option maxHeartbeats 1000000 in
theorem s_X8_waitingFor (X : GS) (name : Int32) {vo : Int32} (h : m_X8_waitingFor X name = some vo) : Ct 1 0 0 yX8_waitingFor (.code yX8_waitingFor cX8_waitingFor 4 (some (.int))) [.ref 131, .int name] (mkH X) (.inl (some (.int vo))) (mkH X) := by
  refine Ct.of (LL := [some (.ref 131), some (.int name), none, none]) mkX8_waitingFor.1 owX8_waitingFor rfl (Nat.le_of_ble_eq_true rfl) rfl (fun Wk C => ?_)
  have K := C.core
  rw [m_X8_waitingFor] at h
  refine K.iconst (q := 1) (v := 0) dX8_waitingFor_0 rfl (by decide) ?_
  refine K.istore_n (q := 2) (i := 2) dX8_waitingFor_1 rfl rfl (by decide) rfl ?_
  refine K.iconst (q := 3) (v := 0) dX8_waitingFor_2 rfl (by decide) ?_
  refine K.istore_n (q := 4) (i := 3) dX8_waitingFor_3 rfl rfl (by decide) rfl ?_
  have L4 : ∀ (j4 i4 : Nat) (a2_4 : Int32) (a2_4r : Int32), i4 + j4 = ((((X.2.2.1 5) 113)).toNatClampNeg) → lp_X8_waitingFor_4 X name j4 i4 a2_4 = some a2_4r → (Wk 0 0 42 [some (.ref 131), some (.int name), some (.int a2_4r), none] [] (mkH X)) → Wk 0 0 4 [some (.ref 131), some (.int name), some (.int a2_4), some (.int (nI i4))] [] (mkH X) := by
    intro j4
    induction j4 with
    | zero =>
      intro i4 a2_4 a2_4r hij h hx
      rw [lp_X8_waitingFor_4] at h
      refine K.iload_n (q := 5) dX8_waitingFor_4 rfl rfl ?_
      refine K.aload_n (q := 6) dX8_waitingFor_5 rfl rfl ?_
      refine K.getf (q := 9) (v := .ref 132) fo_X8_7.r rx131 (lt141 (by decide)) rfl dX8_waitingFor_6 rfl ?_
      refine K.bipush (q := 11) (v := 113) dX8_waitingFor_9 rfl (by decide) ?_
      refine K.ial (q := 12) (f := (X.2.2.1 5)) (m := 113) rx132 (lt141 (by decide)) rfl (by decide) (by decide) dX8_waitingFor_11 rfl ?_
      refine K.icmp_ge (q := 15) (tgt := 42) dX8_waitingFor_12 rfl (by decide) (fun _ => ?_) (fun z => absurd z (not_not_intro (cl_ge (B := ((X.2.2.1 5) 113)) (by omega))))
      refine K.drop 3 ?_
      obtain q0 := ret1_inv h
      subst q0
      exact hx
    | succ j4 ih =>
      intro i4 a2_4 a2_4r hij h hx
      rw [lp_X8_waitingFor_4] at h
      refine K.iload_n (q := 5) dX8_waitingFor_4 rfl rfl ?_
      refine K.aload_n (q := 6) dX8_waitingFor_5 rfl rfl ?_
      refine K.getf (q := 9) (v := .ref 132) fo_X8_7.r rx131 (lt141 (by decide)) rfl dX8_waitingFor_6 rfl ?_
      refine K.bipush (q := 11) (v := 113) dX8_waitingFor_9 rfl (by decide) ?_
      refine K.ial (q := 12) (f := (X.2.2.1 5)) (m := 113) rx132 (lt141 (by decide)) rfl (by decide) (by decide) dX8_waitingFor_11 rfl ?_
      refine K.icmp_ge (q := 15) (tgt := 42) dX8_waitingFor_12 rfl (by decide) (fun z => absurd z (cl_nge (B := ((X.2.2.1 5) 113)) (by omega))) (fun _ => ?_)
      refine K.iload_n (q := 16) dX8_waitingFor_15 rfl rfl ?_
      refine K.aload_n (q := 17) dX8_waitingFor_16 rfl rfl ?_
      refine K.getf (q := 20) (v := .ref 132) fo_X8_7.r rx131 (lt141 (by decide)) rfl dX8_waitingFor_17 rfl ?_
      refine K.bipush (q := 22) (v := 114) dX8_waitingFor_20 rfl (by decide) ?_
      refine K.iload_n (q := 23) dX8_waitingFor_22 rfl rfl ?_
      refine K.iaddE (q := 24) (z := (nI (114 + i4))) (nI_add 114 i4) dX8_waitingFor_23 rfl ?_
      obtain ⟨k_3, h⟩ := chk_inv h
      refine K.ial (q := 25) (f := (X.2.2.1 5)) (m := ((114 + i4))) rx132 (lt141 (by decide)) rfl k_3 (by decide) dX8_waitingFor_24 rfl ?_
      refine K.iload_n (q := 26) dX8_waitingFor_25 rfl rfl ?_
      refine K.icmp_ne (q := 29) (tgt := 33) dX8_waitingFor_26 rfl (by decide) (fun c_26_4 => ?_) (fun c_26_4 => ?_)
      · rw [if_neg c_26_4] at h
        refine K.iconst (q := 34) (v := 0) dX8_waitingFor_33 rfl (by decide) ?_
        refine K.iadd (q := 35) dX8_waitingFor_34 rfl ?_
        refine K.istore_n (q := 36) (i := 2) dX8_waitingFor_35 rfl rfl (by decide) rfl ?_
        refine K.iinc (q := 39) (v := (nI (i4 + 1))) dX8_waitingFor_36 rfl rfl (nI_1 _) (by decide) rfl ?_
        refine K.goto (tgt := 4) dX8_waitingFor_39 (by decide) ?_
        exact ih (i4 + 1) (a2_4 + 0) _ (by omega) h hx
      · rw [if_pos c_26_4] at h
        refine K.iconst (q := 30) (v := 1) dX8_waitingFor_29 rfl (by decide) ?_
        refine K.goto (tgt := 34) dX8_waitingFor_30 (by decide) ?_
        refine K.iadd (q := 35) dX8_waitingFor_34 rfl ?_
        refine K.istore_n (q := 36) (i := 2) dX8_waitingFor_35 rfl rfl (by decide) rfl ?_
        refine K.iinc (q := 39) (v := (nI (i4 + 1))) dX8_waitingFor_36 rfl rfl (nI_1 _) (by decide) rfl ?_
        refine K.goto (tgt := 4) dX8_waitingFor_39 (by decide) ?_
        exact ih (i4 + 1) (a2_4 + 1) _ (by omega) h hx
  obtain ⟨a2_4_5, h9_5, h⟩ := bnd1_inv h
  refine L4 ((((X.2.2.1 5) 113)).toNatClampNeg) 0 0 _ (by omega) h9_5 ?_
  refine K.iload_n (q := 43) dX8_waitingFor_42 rfl rfl ?_
  obtain e_vo := ret1_inv h
  exact C.iret rfl rfl (congrArg (fun z => Sum.inl (some (Value.int z))) e_vo.symm) rfl (Nat.le_of_ble_eq_true rfl) (Nat.le_of_ble_eq_true rfl) dX8_waitingFor_43

def lp_X8_givesAll_25 (name : Int32) : Nat → Int32 → Int32 → GS → Option (Int32 × Int32 × GS)
  | 0, _, _, _ => none
  | j25 + 1, a2_25, a3_25, XX25 => (if a3_25 < 0 then (some (a2_25, a3_25, XX25)) else (if inR (65 + a3_25) 129 then (if ((XX25.2.2.1 5) ((65 + a3_25).toNatClampNeg)) = name then (bnd1 (m_X8_comesBack XX25 a3_25) fun (X6 : GS) => (lp_X8_givesAll_25 name j25 (a2_25 + 1) (a3_25 + (-1)) X6)) else (lp_X8_givesAll_25 name j25 a2_25 (a3_25 + (-1)) XX25)) else none))

def m_X8_givesAll (X : GS) (name : Int32) : Option (Int32 × GS) := (bnd1 (m_X8_isName name) fun (v1 : Int32) => (if v1 = 0 then (bnd2 (m_X8_fails X 1) fun (v13 : Int32) (X13 : GS) => (some (v13, X13))) else (bnd3 (lp_X8_givesAll_25 name 1000 0 (((X.2.2.1 5) 64) - 1) X) fun (a2_25_7 : Int32) (a3_25_7 : Int32) (XX25_7 : GS) => (if a2_25_7 = 0 then (bnd1 (m_X8_waitingFor XX25_7 name) fun (v11 : Int32) => (bnd2 (m_X8_refused XX25_7 4 v11 2) fun (v12 : Int32) (X12 : GS) => (some (v12, X12)))) else (bnd2 (m_X8_serves XX25_7) fun (v9 : Int32) (X9 : GS) => (bnd2 (m_X8_done X9 a2_25_7) fun (v10 : Int32) (X10 : GS) => (some (v10, X10))))))))
set_option maxRecDepth 20000 in
set_option maxHeartbeats 1000000 in
theorem s_X8_givesAll (X : GS) (name : Int32) {vo : Int32} {Xo : GS} (h : m_X8_givesAll X name = some (vo, Xo)) : Ct 6 0 0 yX8_givesAll (.code yX8_givesAll cX8_givesAll 4 (some (.int))) [.ref 131, .int name] (mkH X) (.inl (some (.int vo))) (mkH Xo) := by
  refine Ct.of (LL := [some (.ref 131), some (.int name), none, none]) mkX8_givesAll.1 owX8_givesAll rfl (Nat.le_of_ble_eq_true rfl) rfl (fun Wk C => ?_)
  have K := C.core
  rw [m_X8_givesAll] at h
  refine K.iload_n (q := 1) dX8_givesAll_0 rfl rfl ?_
  obtain ⟨v1, h9_1, h⟩ := bnd1_inv h
  refine K.callS0 (q := 4) mkX8_isName mw_X8_92 (s_X8_isName _ _ h9_1) rfl (by decide) rfl (Nat.le_of_ble_eq_true rfl) (Nat.le_of_ble_eq_true rfl) (Nat.le_of_ble_eq_true rfl) dX8_givesAll_1 rfl ?_
  refine K.if_ne (q := 7) (tgt := 13) dX8_givesAll_4 rfl (by decide) (fun c_4_2 => ?_) (fun c_4_2 => ?_)
  · rw [if_neg c_4_2] at h
    refine K.iconst (q := 14) (v := 0) dX8_givesAll_13 rfl (by decide) ?_
    refine K.istore_n (q := 15) (i := 2) dX8_givesAll_14 rfl rfl (by decide) rfl ?_
    refine K.aload_n (q := 16) dX8_givesAll_15 rfl rfl ?_
    refine K.getf (q := 19) (v := .ref 132) fo_X8_7.r rx131 (lt141 (by decide)) rfl dX8_givesAll_16 rfl ?_
    refine K.bipush (q := 21) (v := 64) dX8_givesAll_19 rfl (by decide) ?_
    refine K.ial (q := 22) (f := (X.2.2.1 5)) (m := 64) rx132 (lt141 (by decide)) rfl (by decide) (by decide) dX8_givesAll_21 rfl ?_
    refine K.iconst (q := 23) (v := 1) dX8_givesAll_22 rfl (by decide) ?_
    refine K.isub (q := 24) dX8_givesAll_23 rfl ?_
    refine K.istore_n (q := 25) (i := 3) dX8_givesAll_24 rfl rfl (by decide) rfl ?_
    have L25 : ∀ (j25 : Nat) (a2_25 : Int32) (a3_25 : Int32) (XX25 : GS) (a2_25r : Int32) (a3_25r : Int32) (XX25r : GS), lp_X8_givesAll_25 name j25 a2_25 a3_25 XX25 = some (a2_25r, a3_25r, XX25r) → (Wk 0 0 56 [some (.ref 131), some (.int name), some (.int a2_25r), some (.int a3_25r)] [] (mkH XX25r)) → Wk 0 0 25 [some (.ref 131), some (.int name), some (.int a2_25), some (.int a3_25)] [] (mkH XX25) := by
      intro j25
      induction j25 with
      | zero =>
        intro a2_25 a3_25 XX25 a2_25r a3_25r XX25r h hx
        rw [lp_X8_givesAll_25] at h
        cases h
      | succ j25 ih =>
        intro a2_25 a3_25 XX25 a2_25r a3_25r XX25r h hx
        rw [lp_X8_givesAll_25] at h
        refine K.iload_n (q := 26) dX8_givesAll_25 rfl rfl ?_
        refine K.if_lt (q := 29) (tgt := 56) dX8_givesAll_26 rfl (by decide) (fun c_26_3 => ?_) (fun c_26_3 => ?_)
        · rw [if_pos c_26_3] at h
          obtain ⟨q0, q1, q2⟩ := ret3_inv h
          subst q0; subst q1; subst q2
          exact hx
        · rw [if_neg c_26_3] at h
          refine K.aload_n (q := 30) dX8_givesAll_29 rfl rfl ?_
          refine K.getf (q := 33) (v := .ref 132) fo_X8_7.r rx131 (lt141 (by decide)) rfl dX8_givesAll_30 rfl ?_
          refine K.bipush (q := 35) (v := 65) dX8_givesAll_33 rfl (by decide) ?_
          refine K.iload_n (q := 36) dX8_givesAll_35 rfl rfl ?_
          refine K.iadd (q := 37) dX8_givesAll_36 rfl ?_
          obtain ⟨k_4, h⟩ := chk_inv h
          refine K.ial (q := 38) (f := (XX25.2.2.1 5)) (m := ((65 + a3_25).toNatClampNeg)) rx132 (lt141 (by decide)) (cl_nI k_4.1) k_4.2 (by decide) dX8_givesAll_37 rfl ?_
          refine K.iload_n (q := 39) dX8_givesAll_38 rfl rfl ?_
          refine K.icmp_ne (q := 42) (tgt := 50) dX8_givesAll_39 rfl (by decide) (fun c_39_5 => ?_) (fun c_39_5 => ?_)
          · rw [if_neg c_39_5] at h
            refine K.iinc (q := 53) (v := (a3_25 + (-1))) dX8_givesAll_50 rfl rfl rfl (by decide) rfl ?_
            refine K.goto (tgt := 25) dX8_givesAll_53 (by decide) ?_
            exact ih a2_25 (a3_25 + (-1)) XX25 _ _ _ h hx
          · rw [if_pos c_39_5] at h
            refine K.aload_n (q := 43) dX8_givesAll_42 rfl rfl ?_
            refine K.iload_n (q := 44) dX8_givesAll_43 rfl rfl ?_
            obtain ⟨X6, h9_6, h⟩ := bnd1_inv h
            refine K.callVv0 (q := 47) mkX8_comesBack mw_X8_130 (s_X8_comesBack _ _ h9_6) rfl (by decide) rfl (lt141 (by decide)) rx131 (Nat.le_of_ble_eq_true rfl) (Nat.le_of_ble_eq_true rfl) (Nat.le_of_ble_eq_true rfl) dX8_givesAll_44 rfl ?_
            refine K.iinc (q := 50) (v := (a2_25 + 1)) dX8_givesAll_47 rfl rfl rfl (by decide) rfl ?_
            refine K.iinc (q := 53) (v := (a3_25 + (-1))) dX8_givesAll_50 rfl rfl rfl (by decide) rfl ?_
            refine K.goto (tgt := 25) dX8_givesAll_53 (by decide) ?_
            exact ih (a2_25 + 1) (a3_25 + (-1)) X6 _ _ _ h hx
    obtain ⟨a2_25_7, a3_25_7, XX25_7, h9_7, h⟩ := bnd3_inv h
    refine L25 1000 0 (((X.2.2.1 5) 64) - 1) X _ _ _ h9_7 ?_
    refine K.iload_n (q := 57) dX8_givesAll_56 rfl rfl ?_
    refine K.if_ne (q := 60) (tgt := 72) dX8_givesAll_57 rfl (by decide) (fun c_57_8 => ?_) (fun c_57_8 => ?_)
    · rw [if_neg c_57_8] at h
      refine K.aload_n (q := 73) dX8_givesAll_72 rfl rfl ?_
      obtain ⟨v9, X9, h9_9, h⟩ := bnd2_inv h
      refine K.callV0 (q := 76) mkX8_serves mw_X8_133 (s_X8_serves _ h9_9) rfl (by decide) rfl (lt141 (by decide)) rx131 (Nat.le_of_ble_eq_true rfl) (Nat.le_of_ble_eq_true rfl) (Nat.le_of_ble_eq_true rfl) dX8_givesAll_73 rfl ?_
      refine K.istore_n (q := 77) (i := 3) dX8_givesAll_76 rfl rfl (by decide) rfl ?_
      refine K.aload_n (q := 78) dX8_givesAll_77 rfl rfl ?_
      refine K.iload_n (q := 79) dX8_givesAll_78 rfl rfl ?_
      obtain ⟨v10, X10, h9_10, h⟩ := bnd2_inv h
      refine K.callV0 (q := 82) mkX8_done mw_X8_105 (s_X8_done _ _ h9_10) rfl (by decide) rfl (lt141 (by decide)) rx131 (Nat.le_of_ble_eq_true rfl) (Nat.le_of_ble_eq_true rfl) (Nat.le_of_ble_eq_true rfl) dX8_givesAll_79 rfl ?_
      obtain ⟨e_vo, e_Xo⟩ := ret2_inv h
      exact C.iret rfl rfl (congrArg (fun z => Sum.inl (some (Value.int z))) e_vo.symm) (congrArg mkH e_Xo) (Nat.le_of_ble_eq_true rfl) (Nat.le_of_ble_eq_true rfl) dX8_givesAll_82
    · rw [if_pos c_57_8] at h
      refine K.aload_n (q := 61) dX8_givesAll_60 rfl rfl ?_
      refine K.iconst (q := 62) (v := 4) dX8_givesAll_61 rfl (by decide) ?_
      refine K.aload_n (q := 63) dX8_givesAll_62 rfl rfl ?_
      refine K.iload_n (q := 64) dX8_givesAll_63 rfl rfl ?_
      obtain ⟨v11, h9_11, h⟩ := bnd1_inv h
      refine K.callV0 (q := 67) mkX8_waitingFor mw_X8_139 (s_X8_waitingFor _ _ h9_11) rfl (by decide) rfl (lt141 (by decide)) rx131 (Nat.le_of_ble_eq_true rfl) (Nat.le_of_ble_eq_true rfl) (Nat.le_of_ble_eq_true rfl) dX8_givesAll_64 rfl ?_
      refine K.iconst (q := 68) (v := 2) dX8_givesAll_67 rfl (by decide) ?_
      obtain ⟨v12, X12, h9_12, h⟩ := bnd2_inv h
      refine K.callV0 (q := 71) mkX8_refused mw_X8_101 (s_X8_refused _ _ _ _ h9_12) rfl (by decide) rfl (lt141 (by decide)) rx131 (Nat.le_of_ble_eq_true rfl) (Nat.le_of_ble_eq_true rfl) (Nat.le_of_ble_eq_true rfl) dX8_givesAll_68 rfl ?_
      obtain ⟨e_vo, e_Xo⟩ := ret2_inv h
      exact C.iret rfl rfl (congrArg (fun z => Sum.inl (some (Value.int z))) e_vo.symm) (congrArg mkH e_Xo) (Nat.le_of_ble_eq_true rfl) (Nat.le_of_ble_eq_true rfl) dX8_givesAll_71
  · rw [if_pos c_4_2] at h
    refine K.aload_n (q := 8) dX8_givesAll_7 rfl rfl ?_
    refine K.iconst (q := 9) (v := 1) dX8_givesAll_8 rfl (by decide) ?_
    obtain ⟨v13, X13, h9_13, h⟩ := bnd2_inv h
    refine K.callV0 (q := 12) mkX8_fails mw_X8_98 (s_X8_fails _ _ h9_13) rfl (by decide) rfl (lt141 (by decide)) rx131 (Nat.le_of_ble_eq_true rfl) (Nat.le_of_ble_eq_true rfl) (Nat.le_of_ble_eq_true rfl) dX8_givesAll_9 rfl ?_
    obtain ⟨e_vo, e_Xo⟩ := ret2_inv h
    exact C.iret rfl rfl (congrArg (fun z => Sum.inl (some (Value.int z))) e_vo.symm) (congrArg mkH e_Xo) (Nat.le_of_ble_eq_true rfl) (Nat.le_of_ble_eq_true rfl) dX8_givesAll_12

def m_X8_giveAll (X : GS) (name : Int32) : Option (Int32 × GS) := (bnd1 (m_X8_looksBack X) fun (X1 : GS) => (bnd2 (m_X8_givesAll X1 name) fun (v2 : Int32) (X2 : GS) => (bnd2 (m_X8_kept X2 v2) fun (v3 : Int32) (X3 : GS) => (some (v3, X3)))))
set_option maxRecDepth 20000 in
set_option maxHeartbeats 1000000 in
theorem s_X8_giveAll (X : GS) (name : Int32) {vo : Int32} {Xo : GS} (h : m_X8_giveAll X name = some (vo, Xo)) : Ct 7 0 0 yX8_giveAll (.code yX8_giveAll cX8_giveAll 2 (some (.int))) [.ref 131, .int name] (mkH X) (.inl (some (.int vo))) (mkH Xo) := by
  refine Ct.of (LL := [some (.ref 131), some (.int name)]) mkX8_giveAll.1 owX8_giveAll rfl (Nat.le_of_ble_eq_true rfl) rfl (fun Wk C => ?_)
  have K := C.core
  rw [m_X8_giveAll] at h
  refine K.aload_n (q := 1) dX8_giveAll_0 rfl rfl ?_
  obtain ⟨X1, h9_1, h⟩ := bnd1_inv h
  refine K.callVv0 (q := 4) mkX8_looksBack mw_X8_112 (s_X8_looksBack _ h9_1) rfl (by decide) rfl (lt141 (by decide)) rx131 (Nat.le_of_ble_eq_true rfl) (Nat.le_of_ble_eq_true rfl) (Nat.le_of_ble_eq_true rfl) dX8_giveAll_1 rfl ?_
  refine K.aload_n (q := 5) dX8_giveAll_4 rfl rfl ?_
  refine K.aload_n (q := 6) dX8_giveAll_5 rfl rfl ?_
  refine K.iload_n (q := 7) dX8_giveAll_6 rfl rfl ?_
  obtain ⟨v2, X2, h9_2, h⟩ := bnd2_inv h
  refine K.callV0 (q := 10) mkX8_givesAll mw_X8_142 (s_X8_givesAll _ _ h9_2) rfl (by decide) rfl (lt141 (by decide)) rx131 (Nat.le_of_ble_eq_true rfl) (Nat.le_of_ble_eq_true rfl) (Nat.le_of_ble_eq_true rfl) dX8_giveAll_7 rfl ?_
  obtain ⟨v3, X3, h9_3, h⟩ := bnd2_inv h
  refine K.callV0 (q := 13) mkX8_kept mw_X8_118 (s_X8_kept _ _ h9_3) rfl (by decide) rfl (lt141 (by decide)) rx131 (Nat.le_of_ble_eq_true rfl) (Nat.le_of_ble_eq_true rfl) (Nat.le_of_ble_eq_true rfl) dX8_giveAll_10 rfl ?_
  obtain ⟨e_vo, e_Xo⟩ := ret2_inv h
  exact C.iret rfl rfl (congrArg (fun z => Sum.inl (some (Value.int z))) e_vo.symm) (congrArg mkH e_Xo) (Nat.le_of_ble_eq_true rfl) (Nat.le_of_ble_eq_true rfl) dX8_giveAll_13

def m_X8_grows (X : GS) (loan : Int32) (need : Int32) : Option (Int32 × GS) := (if inR (97 + loan) 129 then (if inR (97 + loan) 129 then (bnd1 (m_X8_joins (uA X 5 (up (X.2.2.1 5) ((97 + loan).toNatClampNeg) (-1))) ((X.2.2.1 5) ((97 + loan).toNatClampNeg))) fun (X3 : GS) => (bnd1 (m_X8_finds X3 need) fun (v4 : Int32) => (if v4 = (-1) then (if v4 = (-1) then (some (0, X3)) else (some (1, X3))) else (bnd2 (m_X8_halves X3 v4 need) fun (v7 : Int32) (X7 : GS) => (if inR (97 + loan) 129 then (if v4 = (-1) then (some (0, (uA X7 5 (up (X7.2.2.1 5) ((97 + loan).toNatClampNeg) v7)))) else (some (1, (uA X7 5 (up (X7.2.2.1 5) ((97 + loan).toNatClampNeg) v7))))) else none))))) else none) else none)
set_option maxRecDepth 20000 in
set_option maxHeartbeats 1000000 in
theorem s_X8_grows (X : GS) (loan : Int32) (need : Int32) {vo : Int32} {Xo : GS} (h : m_X8_grows X loan need = some (vo, Xo)) : Ct 4 0 0 yX8_grows (.code yX8_grows cX8_grows 5 (some (.boolean))) [.ref 131, .int loan, .int need] (mkH X) (.inl (some (.int vo))) (mkH Xo) := by
  refine Ct.of (LL := [some (.ref 131), some (.int loan), some (.int need), none, none]) mkX8_grows.1 owX8_grows rfl (Nat.le_of_ble_eq_true rfl) rfl (fun Wk C => ?_)
  have K := C.core
  rw [m_X8_grows] at h
  refine K.aload_n (q := 1) dX8_grows_0 rfl rfl ?_
  refine K.getf (q := 4) (v := .ref 132) fo_X8_7.r rx131 (lt141 (by decide)) rfl dX8_grows_1 rfl ?_
  refine K.bipush (q := 6) (v := 97) dX8_grows_4 rfl (by decide) ?_
  refine K.iload_n (q := 7) dX8_grows_6 rfl rfl ?_
  refine K.iadd (q := 8) dX8_grows_7 rfl ?_
  obtain ⟨k_1, h⟩ := chk_inv h
  refine K.ial (q := 9) (f := (X.2.2.1 5)) (m := ((97 + loan).toNatClampNeg)) rx132 (lt141 (by decide)) (cl_nI k_1.1) k_1.2 (by decide) dX8_grows_8 rfl ?_
  refine K.istore_n (q := 10) (i := 3) dX8_grows_9 rfl rfl (by decide) rfl ?_
  refine K.aload_n (q := 11) dX8_grows_10 rfl rfl ?_
  refine K.getf (q := 14) (v := .ref 132) fo_X8_7.r rx131 (lt141 (by decide)) rfl dX8_grows_11 rfl ?_
  refine K.bipush (q := 16) (v := 97) dX8_grows_14 rfl (by decide) ?_
  refine K.iload_n (q := 17) dX8_grows_16 rfl rfl ?_
  refine K.iadd (q := 18) dX8_grows_17 rfl ?_
  refine K.iconst (q := 19) (v := (-1)) dX8_grows_18 rfl (by decide) ?_
  obtain ⟨k_2, h⟩ := chk_inv h
  refine K.ias (q := 20) (f := (X.2.2.1 5)) (m := ((97 + loan).toNatClampNeg)) rx132 (lt141 (by decide)) (cl_nI k_2.1) k_2.2 (by decide) pxa5 dX8_grows_19 rfl ?_
  refine K.aload_n (q := 21) dX8_grows_20 rfl rfl ?_
  refine K.iload_n (q := 22) dX8_grows_21 rfl rfl ?_
  obtain ⟨X3, h9_3, h⟩ := bnd1_inv h
  refine K.callVv0 (q := 25) mkX8_joins mw_X8_124 (s_X8_joins _ _ h9_3) rfl (by decide) rfl (lt141 (by decide)) rx131 (Nat.le_of_ble_eq_true rfl) (Nat.le_of_ble_eq_true rfl) (Nat.le_of_ble_eq_true rfl) dX8_grows_22 rfl ?_
  refine K.aload_n (q := 26) dX8_grows_25 rfl rfl ?_
  refine K.iload_n (q := 27) dX8_grows_26 rfl rfl ?_
  obtain ⟨v4, h9_4, h⟩ := bnd1_inv h
  refine K.callV0 (q := 30) mkX8_finds mw_X8_75 (s_X8_finds _ _ h9_4) rfl (by decide) rfl (lt141 (by decide)) rx131 (Nat.le_of_ble_eq_true rfl) (Nat.le_of_ble_eq_true rfl) (Nat.le_of_ble_eq_true rfl) dX8_grows_27 rfl ?_
  refine K.istore (q := 32) dX8_grows_30 rfl (by decide) rfl ?_
  refine K.iload (q := 34) dX8_grows_32 rfl rfl ?_
  refine K.iconst (q := 35) (v := (-1)) dX8_grows_34 rfl (by decide) ?_
  refine K.icmp_eq (q := 38) (tgt := 54) dX8_grows_35 rfl (by decide) (fun c_35_5 => ?_) (fun c_35_5 => ?_)
  · rw [if_pos c_35_5] at h
    refine K.iload (q := 56) dX8_grows_54 rfl rfl ?_
    refine K.iconst (q := 57) (v := (-1)) dX8_grows_56 rfl (by decide) ?_
    refine K.icmp_eq (q := 60) (tgt := 64) dX8_grows_57 rfl (by decide) (fun c_57_6 => ?_) (fun c_57_6 => ?_)
    · rw [if_pos c_57_6] at h
      refine K.iconst (q := 65) (v := 0) dX8_grows_64 rfl (by decide) ?_
      obtain ⟨e_vo, e_Xo⟩ := ret2_inv h
      exact C.iret rfl rfl (congrArg (fun z => Sum.inl (some (Value.int z))) e_vo.symm) (congrArg mkH e_Xo) (Nat.le_of_ble_eq_true rfl) (Nat.le_of_ble_eq_true rfl) dX8_grows_65
    · rw [if_neg c_57_6] at h
      refine K.iconst (q := 61) (v := 1) dX8_grows_60 rfl (by decide) ?_
      refine K.goto (tgt := 65) dX8_grows_61 (by decide) ?_
      obtain ⟨e_vo, e_Xo⟩ := ret2_inv h
      exact C.iret rfl rfl (congrArg (fun z => Sum.inl (some (Value.int z))) e_vo.symm) (congrArg mkH e_Xo) (Nat.le_of_ble_eq_true rfl) (Nat.le_of_ble_eq_true rfl) dX8_grows_65
  · rw [if_neg c_35_5] at h
    refine K.aload_n (q := 39) dX8_grows_38 rfl rfl ?_
    refine K.getf (q := 42) (v := .ref 132) fo_X8_7.r rx131 (lt141 (by decide)) rfl dX8_grows_39 rfl ?_
    refine K.bipush (q := 44) (v := 97) dX8_grows_42 rfl (by decide) ?_
    refine K.iload_n (q := 45) dX8_grows_44 rfl rfl ?_
    refine K.iadd (q := 46) dX8_grows_45 rfl ?_
    refine K.aload_n (q := 47) dX8_grows_46 rfl rfl ?_
    refine K.iload (q := 49) dX8_grows_47 rfl rfl ?_
    refine K.iload_n (q := 50) dX8_grows_49 rfl rfl ?_
    obtain ⟨v7, X7, h9_7, h⟩ := bnd2_inv h
    refine K.callV0 (q := 53) mkX8_halves mw_X8_78 (s_X8_halves _ _ _ h9_7) rfl (by decide) rfl (lt141 (by decide)) rx131 (Nat.le_of_ble_eq_true rfl) (Nat.le_of_ble_eq_true rfl) (Nat.le_of_ble_eq_true rfl) dX8_grows_50 rfl ?_
    obtain ⟨k_8, h⟩ := chk_inv h
    refine K.ias (q := 54) (f := (X7.2.2.1 5)) (m := ((97 + loan).toNatClampNeg)) rx132 (lt141 (by decide)) (cl_nI k_8.1) k_8.2 (by decide) pxa5 dX8_grows_53 rfl ?_
    refine K.iload (q := 56) dX8_grows_54 rfl rfl ?_
    refine K.iconst (q := 57) (v := (-1)) dX8_grows_56 rfl (by decide) ?_
    refine K.icmp_eq (q := 60) (tgt := 64) dX8_grows_57 rfl (by decide) (fun c_57_9 => ?_) (fun c_57_9 => ?_)
    · rw [if_pos c_57_9] at h
      refine K.iconst (q := 65) (v := 0) dX8_grows_64 rfl (by decide) ?_
      obtain ⟨e_vo, e_Xo⟩ := ret2_inv h
      exact C.iret rfl rfl (congrArg (fun z => Sum.inl (some (Value.int z))) e_vo.symm) (congrArg mkH e_Xo) (Nat.le_of_ble_eq_true rfl) (Nat.le_of_ble_eq_true rfl) dX8_grows_65
    · rw [if_neg c_57_9] at h
      refine K.iconst (q := 61) (v := 1) dX8_grows_60 rfl (by decide) ?_
      refine K.goto (tgt := 65) dX8_grows_61 (by decide) ?_
      obtain ⟨e_vo, e_Xo⟩ := ret2_inv h
      exact C.iret rfl rfl (congrArg (fun z => Sum.inl (some (Value.int z))) e_vo.symm) (congrArg mkH e_Xo) (Nat.le_of_ble_eq_true rfl) (Nat.le_of_ble_eq_true rfl) dX8_grows_65

def m_X8_resizes (X : GS) (loan : Int32) (amount : Int32) : Option (Int32 × GS) := (bnd1 (m_X8_isLoan X loan) fun (v1 : Int32) => (if v1 = 0 then (bnd2 (m_X8_fails X 1) fun (v46 : Int32) (X46 : GS) => (some (v46, X46))) else (bnd1 (m_X8_isAmount amount) fun (v3 : Int32) => (if v3 = 0 then (bnd2 (m_X8_fails X 2) fun (v45 : Int32) (X45 : GS) => (some (v45, X45))) else (if inR (81 + loan) 129 then (if ((X.2.2.1 5) ((81 + loan).toNatClampNeg)) = amount then (bnd2 (m_X8_refused X 5 amount 3) fun (v44 : Int32) (X44 : GS) => (some (v44, X44))) else (if inR (97 + loan) 129 then (if inR ((X.2.2.1 5) ((97 + loan).toNatClampNeg)) 129 then (bnd1 (m_X8_need amount) fun (v9 : Int32) => (if inR (81 + loan) 129 then (if v9 ≤ ((X.2.2.1 5) (((X.2.2.1 5) ((97 + loan).toNatClampNeg)).toNatClampNeg)) then (if ((X.2.2.1 5) (((X.2.2.1 5) ((97 + loan).toNatClampNeg)).toNatClampNeg)) ≤ v9 then (if inR (97 + loan) 129 then (if v9 = ((X.2.2.1 5) (((X.2.2.1 5) ((97 + loan).toNatClampNeg)).toNatClampNeg)) then (bnd2 (m_X8_done (uA X 5 (up (X.2.2.1 5) ((81 + loan).toNatClampNeg) amount)) ((up (X.2.2.1 5) ((81 + loan).toNatClampNeg) amount) ((97 + loan).toNatClampNeg))) fun (v17 : Int32) (X17 : GS) => (some (v17, X17))) else (bnd2 (m_X8_serves (uA X 5 (up (X.2.2.1 5) ((81 + loan).toNatClampNeg) amount))) fun (v15 : Int32) (X15 : GS) => (bnd2 (m_X8_done X15 ((up (X.2.2.1 5) ((81 + loan).toNatClampNeg) amount) ((97 + loan).toNatClampNeg))) fun (v16 : Int32) (X16 : GS) => (some (v16, X16))))) else none) else (if inR (97 + loan) 129 then (bnd2 (m_X8_halves (uA X 5 (up (X.2.2.1 5) ((81 + loan).toNatClampNeg) amount)) ((up (X.2.2.1 5) ((81 + loan).toNatClampNeg) amount) ((97 + loan).toNatClampNeg)) v9) fun (v19 : Int32) (X19 : GS) => (if inR (97 + loan) 129 then (if inR (97 + loan) 129 then (if v9 = ((X.2.2.1 5) (((X.2.2.1 5) ((97 + loan).toNatClampNeg)).toNatClampNeg)) then (bnd2 (m_X8_done (uA X19 5 (up (X19.2.2.1 5) ((97 + loan).toNatClampNeg) v19)) ((up (X19.2.2.1 5) ((97 + loan).toNatClampNeg) v19) ((97 + loan).toNatClampNeg))) fun (v25 : Int32) (X25 : GS) => (some (v25, X25))) else (bnd2 (m_X8_serves (uA X19 5 (up (X19.2.2.1 5) ((97 + loan).toNatClampNeg) v19))) fun (v23 : Int32) (X23 : GS) => (bnd2 (m_X8_done X23 ((up (X19.2.2.1 5) ((97 + loan).toNatClampNeg) v19) ((97 + loan).toNatClampNeg))) fun (v24 : Int32) (X24 : GS) => (some (v24, X24))))) else none) else none)) else none)) else (bnd2 (m_X8_grows (uA X 5 (up (X.2.2.1 5) ((81 + loan).toNatClampNeg) amount)) loan v9) fun (v26 : Int32) (X26 : GS) => (if v26 = 0 then (bnd1 (m_X8_greatestFree X26) fun (v42 : Int32) => (bnd2 (m_X8_refused X26 2 v42 3) fun (v43 : Int32) (X43 : GS) => (some (v43, X43)))) else (if ((X.2.2.1 5) (((X.2.2.1 5) ((97 + loan).toNatClampNeg)).toNatClampNeg)) ≤ v9 then (if inR (97 + loan) 129 then (if v9 = ((X.2.2.1 5) (((X.2.2.1 5) ((97 + loan).toNatClampNeg)).toNatClampNeg)) then (bnd2 (m_X8_done X26 ((X26.2.2.1 5) ((97 + loan).toNatClampNeg))) fun (v33 : Int32) (X33 : GS) => (some (v33, X33))) else (bnd2 (m_X8_serves X26) fun (v31 : Int32) (X31 : GS) => (bnd2 (m_X8_done X31 ((X26.2.2.1 5) ((97 + loan).toNatClampNeg))) fun (v32 : Int32) (X32 : GS) => (some (v32, X32))))) else none) else (if inR (97 + loan) 129 then (bnd2 (m_X8_halves X26 ((X26.2.2.1 5) ((97 + loan).toNatClampNeg)) v9) fun (v35 : Int32) (X35 : GS) => (if inR (97 + loan) 129 then (if inR (97 + loan) 129 then (if v9 = ((X.2.2.1 5) (((X.2.2.1 5) ((97 + loan).toNatClampNeg)).toNatClampNeg)) then (bnd2 (m_X8_done (uA X35 5 (up (X35.2.2.1 5) ((97 + loan).toNatClampNeg) v35)) ((up (X35.2.2.1 5) ((97 + loan).toNatClampNeg) v35) ((97 + loan).toNatClampNeg))) fun (v41 : Int32) (X41 : GS) => (some (v41, X41))) else (bnd2 (m_X8_serves (uA X35 5 (up (X35.2.2.1 5) ((97 + loan).toNatClampNeg) v35))) fun (v39 : Int32) (X39 : GS) => (bnd2 (m_X8_done X39 ((up (X35.2.2.1 5) ((97 + loan).toNatClampNeg) v35) ((97 + loan).toNatClampNeg))) fun (v40 : Int32) (X40 : GS) => (some (v40, X40))))) else none) else none)) else none))))) else none)) else none) else none)) else none)))))
set_option maxRecDepth 20000 in
set_option maxHeartbeats 1000000 in
theorem s_X8_resizes (X : GS) (loan : Int32) (amount : Int32) {vo : Int32} {Xo : GS} (h : m_X8_resizes X loan amount = some (vo, Xo)) : Ct 6 0 0 yX8_resizes (.code yX8_resizes cX8_resizes 7 (some (.int))) [.ref 131, .int loan, .int amount] (mkH X) (.inl (some (.int vo))) (mkH Xo) := by
  refine Ct.of (LL := [some (.ref 131), some (.int loan), some (.int amount), none, none, none, none]) mkX8_resizes.1 owX8_resizes rfl (Nat.le_of_ble_eq_true rfl) rfl (fun Wk C => ?_)
  have K := C.core
  rw [m_X8_resizes] at h
  refine K.aload_n (q := 1) dX8_resizes_0 rfl rfl ?_
  refine K.iload_n (q := 2) dX8_resizes_1 rfl rfl ?_
  obtain ⟨v1, h9_1, h⟩ := bnd1_inv h
  refine K.callV0 (q := 5) mkX8_isLoan mw_X8_127 (s_X8_isLoan _ _ h9_1) rfl (by decide) rfl (lt141 (by decide)) rx131 (Nat.le_of_ble_eq_true rfl) (Nat.le_of_ble_eq_true rfl) (Nat.le_of_ble_eq_true rfl) dX8_resizes_2 rfl ?_
  refine K.if_ne (q := 8) (tgt := 14) dX8_resizes_5 rfl (by decide) (fun c_5_2 => ?_) (fun c_5_2 => ?_)
  · rw [if_neg c_5_2] at h
    refine K.iload_n (q := 15) dX8_resizes_14 rfl rfl ?_
    obtain ⟨v3, h9_3, h⟩ := bnd1_inv h
    refine K.callS0 (q := 18) mkX8_isAmount mw_X8_95 (s_X8_isAmount _ _ h9_3) rfl (by decide) rfl (Nat.le_of_ble_eq_true rfl) (Nat.le_of_ble_eq_true rfl) (Nat.le_of_ble_eq_true rfl) dX8_resizes_15 rfl ?_
    refine K.if_ne (q := 21) (tgt := 27) dX8_resizes_18 rfl (by decide) (fun c_18_4 => ?_) (fun c_18_4 => ?_)
    · rw [if_neg c_18_4] at h
      refine K.aload_n (q := 28) dX8_resizes_27 rfl rfl ?_
      refine K.getf (q := 31) (v := .ref 132) fo_X8_7.r rx131 (lt141 (by decide)) rfl dX8_resizes_28 rfl ?_
      refine K.bipush (q := 33) (v := 81) dX8_resizes_31 rfl (by decide) ?_
      refine K.iload_n (q := 34) dX8_resizes_33 rfl rfl ?_
      refine K.iadd (q := 35) dX8_resizes_34 rfl ?_
      obtain ⟨k_5, h⟩ := chk_inv h
      refine K.ial (q := 36) (f := (X.2.2.1 5)) (m := ((81 + loan).toNatClampNeg)) rx132 (lt141 (by decide)) (cl_nI k_5.1) k_5.2 (by decide) dX8_resizes_35 rfl ?_
      refine K.iload_n (q := 37) dX8_resizes_36 rfl rfl ?_
      refine K.icmp_ne (q := 40) (tgt := 48) dX8_resizes_37 rfl (by decide) (fun c_37_6 => ?_) (fun c_37_6 => ?_)
      · rw [if_neg c_37_6] at h
        refine K.aload_n (q := 49) dX8_resizes_48 rfl rfl ?_
        refine K.getf (q := 52) (v := .ref 132) fo_X8_7.r rx131 (lt141 (by decide)) rfl dX8_resizes_49 rfl ?_
        refine K.aload_n (q := 53) dX8_resizes_52 rfl rfl ?_
        refine K.getf (q := 56) (v := .ref 132) fo_X8_7.r rx131 (lt141 (by decide)) rfl dX8_resizes_53 rfl ?_
        refine K.bipush (q := 58) (v := 97) dX8_resizes_56 rfl (by decide) ?_
        refine K.iload_n (q := 59) dX8_resizes_58 rfl rfl ?_
        refine K.iadd (q := 60) dX8_resizes_59 rfl ?_
        obtain ⟨k_7, h⟩ := chk_inv h
        refine K.ial (q := 61) (f := (X.2.2.1 5)) (m := ((97 + loan).toNatClampNeg)) rx132 (lt141 (by decide)) (cl_nI k_7.1) k_7.2 (by decide) dX8_resizes_60 rfl ?_
        obtain ⟨k_8, h⟩ := chk_inv h
        refine K.ial (q := 62) (f := (X.2.2.1 5)) (m := (((X.2.2.1 5) ((97 + loan).toNatClampNeg)).toNatClampNeg)) rx132 (lt141 (by decide)) (cl_nI k_8.1) k_8.2 (by decide) dX8_resizes_61 rfl ?_
        refine K.istore_n (q := 63) (i := 3) dX8_resizes_62 rfl rfl (by decide) rfl ?_
        refine K.iload_n (q := 64) dX8_resizes_63 rfl rfl ?_
        obtain ⟨v9, h9_9, h⟩ := bnd1_inv h
        refine K.callS0 (q := 67) mkX8_need mw_X8_72 (s_X8_need _ _ h9_9) rfl (by decide) rfl (Nat.le_of_ble_eq_true rfl) (Nat.le_of_ble_eq_true rfl) (Nat.le_of_ble_eq_true rfl) dX8_resizes_64 rfl ?_
        refine K.istore (q := 69) dX8_resizes_67 rfl (by decide) rfl ?_
        refine K.aload_n (q := 70) dX8_resizes_69 rfl rfl ?_
        refine K.getf (q := 73) (v := .ref 132) fo_X8_7.r rx131 (lt141 (by decide)) rfl dX8_resizes_70 rfl ?_
        refine K.bipush (q := 75) (v := 81) dX8_resizes_73 rfl (by decide) ?_
        refine K.iload_n (q := 76) dX8_resizes_75 rfl rfl ?_
        refine K.iadd (q := 77) dX8_resizes_76 rfl ?_
        refine K.iload_n (q := 78) dX8_resizes_77 rfl rfl ?_
        obtain ⟨k_10, h⟩ := chk_inv h
        refine K.ias (q := 79) (f := (X.2.2.1 5)) (m := ((81 + loan).toNatClampNeg)) rx132 (lt141 (by decide)) (cl_nI k_10.1) k_10.2 (by decide) pxa5 dX8_resizes_78 rfl ?_
        refine K.iload (q := 81) dX8_resizes_79 rfl rfl ?_
        refine K.iload_n (q := 82) dX8_resizes_81 rfl rfl ?_
        refine K.icmp_le (q := 85) (tgt := 106) dX8_resizes_82 rfl (by decide) (fun c_82_11 => ?_) (fun c_82_11 => ?_)
        · rw [if_pos c_82_11] at h
          refine K.iload (q := 108) dX8_resizes_106 rfl rfl ?_
          refine K.iload_n (q := 109) dX8_resizes_108 rfl rfl ?_
          refine K.icmp_ge (q := 112) (tgt := 136) dX8_resizes_109 rfl (by decide) (fun c_109_12 => ?_) (fun c_109_12 => ?_)
          · rw [if_pos c_109_12] at h
            refine K.aload_n (q := 137) dX8_resizes_136 rfl rfl ?_
            refine K.getf (q := 140) (v := .ref 132) fo_X8_7.r rx131 (lt141 (by decide)) rfl dX8_resizes_137 rfl ?_
            refine K.bipush (q := 142) (v := 97) dX8_resizes_140 rfl (by decide) ?_
            refine K.iload_n (q := 143) dX8_resizes_142 rfl rfl ?_
            refine K.iadd (q := 144) dX8_resizes_143 rfl ?_
            obtain ⟨k_13, h⟩ := chk_inv h
            refine K.ial (q := 145) (f := (up (X.2.2.1 5) ((81 + loan).toNatClampNeg) amount)) (m := ((97 + loan).toNatClampNeg)) rx132 (lt141 (by decide)) (cl_nI k_13.1) k_13.2 (by decide) dX8_resizes_144 rfl ?_
            refine K.istore (q := 147) dX8_resizes_145 rfl (by decide) rfl ?_
            refine K.iload (q := 149) dX8_resizes_147 rfl rfl ?_
            refine K.iload_n (q := 150) dX8_resizes_149 rfl rfl ?_
            refine K.icmp_ne (q := 153) (tgt := 157) dX8_resizes_150 rfl (by decide) (fun c_150_14 => ?_) (fun c_150_14 => ?_)
            · rw [if_neg c_150_14] at h
              refine K.aload_n (q := 158) dX8_resizes_157 rfl rfl ?_
              obtain ⟨v15, X15, h9_15, h⟩ := bnd2_inv h
              refine K.callV0 (q := 161) mkX8_serves mw_X8_133 (s_X8_serves _ h9_15) rfl (by decide) rfl (lt141 (by decide)) rx131 (Nat.le_of_ble_eq_true rfl) (Nat.le_of_ble_eq_true rfl) (Nat.le_of_ble_eq_true rfl) dX8_resizes_158 rfl ?_
              refine K.istore (q := 163) dX8_resizes_161 rfl (by decide) rfl ?_
              refine K.aload_n (q := 164) dX8_resizes_163 rfl rfl ?_
              refine K.iload (q := 166) dX8_resizes_164 rfl rfl ?_
              obtain ⟨v16, X16, h9_16, h⟩ := bnd2_inv h
              refine K.callV0 (q := 169) mkX8_done mw_X8_105 (s_X8_done _ _ h9_16) rfl (by decide) rfl (lt141 (by decide)) rx131 (Nat.le_of_ble_eq_true rfl) (Nat.le_of_ble_eq_true rfl) (Nat.le_of_ble_eq_true rfl) dX8_resizes_166 rfl ?_
              obtain ⟨e_vo, e_Xo⟩ := ret2_inv h
              exact C.iret rfl rfl (congrArg (fun z => Sum.inl (some (Value.int z))) e_vo.symm) (congrArg mkH e_Xo) (Nat.le_of_ble_eq_true rfl) (Nat.le_of_ble_eq_true rfl) dX8_resizes_169
            · rw [if_pos c_150_14] at h
              refine K.iconst (q := 154) (v := 0) dX8_resizes_153 rfl (by decide) ?_
              refine K.goto (tgt := 161) dX8_resizes_154 (by decide) ?_
              refine K.istore (q := 163) dX8_resizes_161 rfl (by decide) rfl ?_
              refine K.aload_n (q := 164) dX8_resizes_163 rfl rfl ?_
              refine K.iload (q := 166) dX8_resizes_164 rfl rfl ?_
              obtain ⟨v17, X17, h9_17, h⟩ := bnd2_inv h
              refine K.callV0 (q := 169) mkX8_done mw_X8_105 (s_X8_done _ _ h9_17) rfl (by decide) rfl (lt141 (by decide)) rx131 (Nat.le_of_ble_eq_true rfl) (Nat.le_of_ble_eq_true rfl) (Nat.le_of_ble_eq_true rfl) dX8_resizes_166 rfl ?_
              obtain ⟨e_vo, e_Xo⟩ := ret2_inv h
              exact C.iret rfl rfl (congrArg (fun z => Sum.inl (some (Value.int z))) e_vo.symm) (congrArg mkH e_Xo) (Nat.le_of_ble_eq_true rfl) (Nat.le_of_ble_eq_true rfl) dX8_resizes_169
          · rw [if_neg c_109_12] at h
            refine K.aload_n (q := 113) dX8_resizes_112 rfl rfl ?_
            refine K.getf (q := 116) (v := .ref 132) fo_X8_7.r rx131 (lt141 (by decide)) rfl dX8_resizes_113 rfl ?_
            refine K.bipush (q := 118) (v := 97) dX8_resizes_116 rfl (by decide) ?_
            refine K.iload_n (q := 119) dX8_resizes_118 rfl rfl ?_
            refine K.iadd (q := 120) dX8_resizes_119 rfl ?_
            refine K.aload_n (q := 121) dX8_resizes_120 rfl rfl ?_
            refine K.aload_n (q := 122) dX8_resizes_121 rfl rfl ?_
            refine K.getf (q := 125) (v := .ref 132) fo_X8_7.r rx131 (lt141 (by decide)) rfl dX8_resizes_122 rfl ?_
            refine K.bipush (q := 127) (v := 97) dX8_resizes_125 rfl (by decide) ?_
            refine K.iload_n (q := 128) dX8_resizes_127 rfl rfl ?_
            refine K.iadd (q := 129) dX8_resizes_128 rfl ?_
            obtain ⟨k_18, h⟩ := chk_inv h
            refine K.ial (q := 130) (f := (up (X.2.2.1 5) ((81 + loan).toNatClampNeg) amount)) (m := ((97 + loan).toNatClampNeg)) rx132 (lt141 (by decide)) (cl_nI k_18.1) k_18.2 (by decide) dX8_resizes_129 rfl ?_
            refine K.iload (q := 132) dX8_resizes_130 rfl rfl ?_
            obtain ⟨v19, X19, h9_19, h⟩ := bnd2_inv h
            refine K.callV0 (q := 135) mkX8_halves mw_X8_78 (s_X8_halves _ _ _ h9_19) rfl (by decide) rfl (lt141 (by decide)) rx131 (Nat.le_of_ble_eq_true rfl) (Nat.le_of_ble_eq_true rfl) (Nat.le_of_ble_eq_true rfl) dX8_resizes_132 rfl ?_
            obtain ⟨k_20, h⟩ := chk_inv h
            refine K.ias (q := 136) (f := (X19.2.2.1 5)) (m := ((97 + loan).toNatClampNeg)) rx132 (lt141 (by decide)) (cl_nI k_20.1) k_20.2 (by decide) pxa5 dX8_resizes_135 rfl ?_
            refine K.aload_n (q := 137) dX8_resizes_136 rfl rfl ?_
            refine K.getf (q := 140) (v := .ref 132) fo_X8_7.r rx131 (lt141 (by decide)) rfl dX8_resizes_137 rfl ?_
            refine K.bipush (q := 142) (v := 97) dX8_resizes_140 rfl (by decide) ?_
            refine K.iload_n (q := 143) dX8_resizes_142 rfl rfl ?_
            refine K.iadd (q := 144) dX8_resizes_143 rfl ?_
            obtain ⟨k_21, h⟩ := chk_inv h
            refine K.ial (q := 145) (f := (up (X19.2.2.1 5) ((97 + loan).toNatClampNeg) v19)) (m := ((97 + loan).toNatClampNeg)) rx132 (lt141 (by decide)) (cl_nI k_21.1) k_21.2 (by decide) dX8_resizes_144 rfl ?_
            refine K.istore (q := 147) dX8_resizes_145 rfl (by decide) rfl ?_
            refine K.iload (q := 149) dX8_resizes_147 rfl rfl ?_
            refine K.iload_n (q := 150) dX8_resizes_149 rfl rfl ?_
            refine K.icmp_ne (q := 153) (tgt := 157) dX8_resizes_150 rfl (by decide) (fun c_150_22 => ?_) (fun c_150_22 => ?_)
            · rw [if_neg c_150_22] at h
              refine K.aload_n (q := 158) dX8_resizes_157 rfl rfl ?_
              obtain ⟨v23, X23, h9_23, h⟩ := bnd2_inv h
              refine K.callV0 (q := 161) mkX8_serves mw_X8_133 (s_X8_serves _ h9_23) rfl (by decide) rfl (lt141 (by decide)) rx131 (Nat.le_of_ble_eq_true rfl) (Nat.le_of_ble_eq_true rfl) (Nat.le_of_ble_eq_true rfl) dX8_resizes_158 rfl ?_
              refine K.istore (q := 163) dX8_resizes_161 rfl (by decide) rfl ?_
              refine K.aload_n (q := 164) dX8_resizes_163 rfl rfl ?_
              refine K.iload (q := 166) dX8_resizes_164 rfl rfl ?_
              obtain ⟨v24, X24, h9_24, h⟩ := bnd2_inv h
              refine K.callV0 (q := 169) mkX8_done mw_X8_105 (s_X8_done _ _ h9_24) rfl (by decide) rfl (lt141 (by decide)) rx131 (Nat.le_of_ble_eq_true rfl) (Nat.le_of_ble_eq_true rfl) (Nat.le_of_ble_eq_true rfl) dX8_resizes_166 rfl ?_
              obtain ⟨e_vo, e_Xo⟩ := ret2_inv h
              exact C.iret rfl rfl (congrArg (fun z => Sum.inl (some (Value.int z))) e_vo.symm) (congrArg mkH e_Xo) (Nat.le_of_ble_eq_true rfl) (Nat.le_of_ble_eq_true rfl) dX8_resizes_169
            · rw [if_pos c_150_22] at h
              refine K.iconst (q := 154) (v := 0) dX8_resizes_153 rfl (by decide) ?_
              refine K.goto (tgt := 161) dX8_resizes_154 (by decide) ?_
              refine K.istore (q := 163) dX8_resizes_161 rfl (by decide) rfl ?_
              refine K.aload_n (q := 164) dX8_resizes_163 rfl rfl ?_
              refine K.iload (q := 166) dX8_resizes_164 rfl rfl ?_
              obtain ⟨v25, X25, h9_25, h⟩ := bnd2_inv h
              refine K.callV0 (q := 169) mkX8_done mw_X8_105 (s_X8_done _ _ h9_25) rfl (by decide) rfl (lt141 (by decide)) rx131 (Nat.le_of_ble_eq_true rfl) (Nat.le_of_ble_eq_true rfl) (Nat.le_of_ble_eq_true rfl) dX8_resizes_166 rfl ?_
              obtain ⟨e_vo, e_Xo⟩ := ret2_inv h
              exact C.iret rfl rfl (congrArg (fun z => Sum.inl (some (Value.int z))) e_vo.symm) (congrArg mkH e_Xo) (Nat.le_of_ble_eq_true rfl) (Nat.le_of_ble_eq_true rfl) dX8_resizes_169
        · rw [if_neg c_82_11] at h
          refine K.aload_n (q := 86) dX8_resizes_85 rfl rfl ?_
          refine K.iload_n (q := 87) dX8_resizes_86 rfl rfl ?_
          refine K.iload (q := 89) dX8_resizes_87 rfl rfl ?_
          obtain ⟨v26, X26, h9_26, h⟩ := bnd2_inv h
          refine K.callV0 (q := 92) mkX8_grows mw_X8_145 (s_X8_grows _ _ _ h9_26) rfl (by decide) rfl (lt141 (by decide)) rx131 (Nat.le_of_ble_eq_true rfl) (Nat.le_of_ble_eq_true rfl) (Nat.le_of_ble_eq_true rfl) dX8_resizes_89 rfl ?_
          refine K.if_ne (q := 95) (tgt := 106) dX8_resizes_92 rfl (by decide) (fun c_92_27 => ?_) (fun c_92_27 => ?_)
          · rw [if_neg c_92_27] at h
            refine K.iload (q := 108) dX8_resizes_106 rfl rfl ?_
            refine K.iload_n (q := 109) dX8_resizes_108 rfl rfl ?_
            refine K.icmp_ge (q := 112) (tgt := 136) dX8_resizes_109 rfl (by decide) (fun c_109_28 => ?_) (fun c_109_28 => ?_)
            · rw [if_pos c_109_28] at h
              refine K.aload_n (q := 137) dX8_resizes_136 rfl rfl ?_
              refine K.getf (q := 140) (v := .ref 132) fo_X8_7.r rx131 (lt141 (by decide)) rfl dX8_resizes_137 rfl ?_
              refine K.bipush (q := 142) (v := 97) dX8_resizes_140 rfl (by decide) ?_
              refine K.iload_n (q := 143) dX8_resizes_142 rfl rfl ?_
              refine K.iadd (q := 144) dX8_resizes_143 rfl ?_
              obtain ⟨k_29, h⟩ := chk_inv h
              refine K.ial (q := 145) (f := (X26.2.2.1 5)) (m := ((97 + loan).toNatClampNeg)) rx132 (lt141 (by decide)) (cl_nI k_29.1) k_29.2 (by decide) dX8_resizes_144 rfl ?_
              refine K.istore (q := 147) dX8_resizes_145 rfl (by decide) rfl ?_
              refine K.iload (q := 149) dX8_resizes_147 rfl rfl ?_
              refine K.iload_n (q := 150) dX8_resizes_149 rfl rfl ?_
              refine K.icmp_ne (q := 153) (tgt := 157) dX8_resizes_150 rfl (by decide) (fun c_150_30 => ?_) (fun c_150_30 => ?_)
              · rw [if_neg c_150_30] at h
                refine K.aload_n (q := 158) dX8_resizes_157 rfl rfl ?_
                obtain ⟨v31, X31, h9_31, h⟩ := bnd2_inv h
                refine K.callV0 (q := 161) mkX8_serves mw_X8_133 (s_X8_serves _ h9_31) rfl (by decide) rfl (lt141 (by decide)) rx131 (Nat.le_of_ble_eq_true rfl) (Nat.le_of_ble_eq_true rfl) (Nat.le_of_ble_eq_true rfl) dX8_resizes_158 rfl ?_
                refine K.istore (q := 163) dX8_resizes_161 rfl (by decide) rfl ?_
                refine K.aload_n (q := 164) dX8_resizes_163 rfl rfl ?_
                refine K.iload (q := 166) dX8_resizes_164 rfl rfl ?_
                obtain ⟨v32, X32, h9_32, h⟩ := bnd2_inv h
                refine K.callV0 (q := 169) mkX8_done mw_X8_105 (s_X8_done _ _ h9_32) rfl (by decide) rfl (lt141 (by decide)) rx131 (Nat.le_of_ble_eq_true rfl) (Nat.le_of_ble_eq_true rfl) (Nat.le_of_ble_eq_true rfl) dX8_resizes_166 rfl ?_
                obtain ⟨e_vo, e_Xo⟩ := ret2_inv h
                exact C.iret rfl rfl (congrArg (fun z => Sum.inl (some (Value.int z))) e_vo.symm) (congrArg mkH e_Xo) (Nat.le_of_ble_eq_true rfl) (Nat.le_of_ble_eq_true rfl) dX8_resizes_169
              · rw [if_pos c_150_30] at h
                refine K.iconst (q := 154) (v := 0) dX8_resizes_153 rfl (by decide) ?_
                refine K.goto (tgt := 161) dX8_resizes_154 (by decide) ?_
                refine K.istore (q := 163) dX8_resizes_161 rfl (by decide) rfl ?_
                refine K.aload_n (q := 164) dX8_resizes_163 rfl rfl ?_
                refine K.iload (q := 166) dX8_resizes_164 rfl rfl ?_
                obtain ⟨v33, X33, h9_33, h⟩ := bnd2_inv h
                refine K.callV0 (q := 169) mkX8_done mw_X8_105 (s_X8_done _ _ h9_33) rfl (by decide) rfl (lt141 (by decide)) rx131 (Nat.le_of_ble_eq_true rfl) (Nat.le_of_ble_eq_true rfl) (Nat.le_of_ble_eq_true rfl) dX8_resizes_166 rfl ?_
                obtain ⟨e_vo, e_Xo⟩ := ret2_inv h
                exact C.iret rfl rfl (congrArg (fun z => Sum.inl (some (Value.int z))) e_vo.symm) (congrArg mkH e_Xo) (Nat.le_of_ble_eq_true rfl) (Nat.le_of_ble_eq_true rfl) dX8_resizes_169
            · rw [if_neg c_109_28] at h
              refine K.aload_n (q := 113) dX8_resizes_112 rfl rfl ?_
              refine K.getf (q := 116) (v := .ref 132) fo_X8_7.r rx131 (lt141 (by decide)) rfl dX8_resizes_113 rfl ?_
              refine K.bipush (q := 118) (v := 97) dX8_resizes_116 rfl (by decide) ?_
              refine K.iload_n (q := 119) dX8_resizes_118 rfl rfl ?_
              refine K.iadd (q := 120) dX8_resizes_119 rfl ?_
              refine K.aload_n (q := 121) dX8_resizes_120 rfl rfl ?_
              refine K.aload_n (q := 122) dX8_resizes_121 rfl rfl ?_
              refine K.getf (q := 125) (v := .ref 132) fo_X8_7.r rx131 (lt141 (by decide)) rfl dX8_resizes_122 rfl ?_
              refine K.bipush (q := 127) (v := 97) dX8_resizes_125 rfl (by decide) ?_
              refine K.iload_n (q := 128) dX8_resizes_127 rfl rfl ?_
              refine K.iadd (q := 129) dX8_resizes_128 rfl ?_
              obtain ⟨k_34, h⟩ := chk_inv h
              refine K.ial (q := 130) (f := (X26.2.2.1 5)) (m := ((97 + loan).toNatClampNeg)) rx132 (lt141 (by decide)) (cl_nI k_34.1) k_34.2 (by decide) dX8_resizes_129 rfl ?_
              refine K.iload (q := 132) dX8_resizes_130 rfl rfl ?_
              obtain ⟨v35, X35, h9_35, h⟩ := bnd2_inv h
              refine K.callV0 (q := 135) mkX8_halves mw_X8_78 (s_X8_halves _ _ _ h9_35) rfl (by decide) rfl (lt141 (by decide)) rx131 (Nat.le_of_ble_eq_true rfl) (Nat.le_of_ble_eq_true rfl) (Nat.le_of_ble_eq_true rfl) dX8_resizes_132 rfl ?_
              obtain ⟨k_36, h⟩ := chk_inv h
              refine K.ias (q := 136) (f := (X35.2.2.1 5)) (m := ((97 + loan).toNatClampNeg)) rx132 (lt141 (by decide)) (cl_nI k_36.1) k_36.2 (by decide) pxa5 dX8_resizes_135 rfl ?_
              refine K.aload_n (q := 137) dX8_resizes_136 rfl rfl ?_
              refine K.getf (q := 140) (v := .ref 132) fo_X8_7.r rx131 (lt141 (by decide)) rfl dX8_resizes_137 rfl ?_
              refine K.bipush (q := 142) (v := 97) dX8_resizes_140 rfl (by decide) ?_
              refine K.iload_n (q := 143) dX8_resizes_142 rfl rfl ?_
              refine K.iadd (q := 144) dX8_resizes_143 rfl ?_
              obtain ⟨k_37, h⟩ := chk_inv h
              refine K.ial (q := 145) (f := (up (X35.2.2.1 5) ((97 + loan).toNatClampNeg) v35)) (m := ((97 + loan).toNatClampNeg)) rx132 (lt141 (by decide)) (cl_nI k_37.1) k_37.2 (by decide) dX8_resizes_144 rfl ?_
              refine K.istore (q := 147) dX8_resizes_145 rfl (by decide) rfl ?_
              refine K.iload (q := 149) dX8_resizes_147 rfl rfl ?_
              refine K.iload_n (q := 150) dX8_resizes_149 rfl rfl ?_
              refine K.icmp_ne (q := 153) (tgt := 157) dX8_resizes_150 rfl (by decide) (fun c_150_38 => ?_) (fun c_150_38 => ?_)
              · rw [if_neg c_150_38] at h
                refine K.aload_n (q := 158) dX8_resizes_157 rfl rfl ?_
                obtain ⟨v39, X39, h9_39, h⟩ := bnd2_inv h
                refine K.callV0 (q := 161) mkX8_serves mw_X8_133 (s_X8_serves _ h9_39) rfl (by decide) rfl (lt141 (by decide)) rx131 (Nat.le_of_ble_eq_true rfl) (Nat.le_of_ble_eq_true rfl) (Nat.le_of_ble_eq_true rfl) dX8_resizes_158 rfl ?_
                refine K.istore (q := 163) dX8_resizes_161 rfl (by decide) rfl ?_
                refine K.aload_n (q := 164) dX8_resizes_163 rfl rfl ?_
                refine K.iload (q := 166) dX8_resizes_164 rfl rfl ?_
                obtain ⟨v40, X40, h9_40, h⟩ := bnd2_inv h
                refine K.callV0 (q := 169) mkX8_done mw_X8_105 (s_X8_done _ _ h9_40) rfl (by decide) rfl (lt141 (by decide)) rx131 (Nat.le_of_ble_eq_true rfl) (Nat.le_of_ble_eq_true rfl) (Nat.le_of_ble_eq_true rfl) dX8_resizes_166 rfl ?_
                obtain ⟨e_vo, e_Xo⟩ := ret2_inv h
                exact C.iret rfl rfl (congrArg (fun z => Sum.inl (some (Value.int z))) e_vo.symm) (congrArg mkH e_Xo) (Nat.le_of_ble_eq_true rfl) (Nat.le_of_ble_eq_true rfl) dX8_resizes_169
              · rw [if_pos c_150_38] at h
                refine K.iconst (q := 154) (v := 0) dX8_resizes_153 rfl (by decide) ?_
                refine K.goto (tgt := 161) dX8_resizes_154 (by decide) ?_
                refine K.istore (q := 163) dX8_resizes_161 rfl (by decide) rfl ?_
                refine K.aload_n (q := 164) dX8_resizes_163 rfl rfl ?_
                refine K.iload (q := 166) dX8_resizes_164 rfl rfl ?_
                obtain ⟨v41, X41, h9_41, h⟩ := bnd2_inv h
                refine K.callV0 (q := 169) mkX8_done mw_X8_105 (s_X8_done _ _ h9_41) rfl (by decide) rfl (lt141 (by decide)) rx131 (Nat.le_of_ble_eq_true rfl) (Nat.le_of_ble_eq_true rfl) (Nat.le_of_ble_eq_true rfl) dX8_resizes_166 rfl ?_
                obtain ⟨e_vo, e_Xo⟩ := ret2_inv h
                exact C.iret rfl rfl (congrArg (fun z => Sum.inl (some (Value.int z))) e_vo.symm) (congrArg mkH e_Xo) (Nat.le_of_ble_eq_true rfl) (Nat.le_of_ble_eq_true rfl) dX8_resizes_169
          · rw [if_pos c_92_27] at h
            refine K.aload_n (q := 96) dX8_resizes_95 rfl rfl ?_
            refine K.iconst (q := 97) (v := 2) dX8_resizes_96 rfl (by decide) ?_
            refine K.aload_n (q := 98) dX8_resizes_97 rfl rfl ?_
            obtain ⟨v42, h9_42, h⟩ := bnd1_inv h
            refine K.callV0 (q := 101) mkX8_greatestFree mw_X8_108 (s_X8_greatestFree _ h9_42) rfl (by decide) rfl (lt141 (by decide)) rx131 (Nat.le_of_ble_eq_true rfl) (Nat.le_of_ble_eq_true rfl) (Nat.le_of_ble_eq_true rfl) dX8_resizes_98 rfl ?_
            refine K.iconst (q := 102) (v := 3) dX8_resizes_101 rfl (by decide) ?_
            obtain ⟨v43, X43, h9_43, h⟩ := bnd2_inv h
            refine K.callV0 (q := 105) mkX8_refused mw_X8_101 (s_X8_refused _ _ _ _ h9_43) rfl (by decide) rfl (lt141 (by decide)) rx131 (Nat.le_of_ble_eq_true rfl) (Nat.le_of_ble_eq_true rfl) (Nat.le_of_ble_eq_true rfl) dX8_resizes_102 rfl ?_
            obtain ⟨e_vo, e_Xo⟩ := ret2_inv h
            exact C.iret rfl rfl (congrArg (fun z => Sum.inl (some (Value.int z))) e_vo.symm) (congrArg mkH e_Xo) (Nat.le_of_ble_eq_true rfl) (Nat.le_of_ble_eq_true rfl) dX8_resizes_105
      · rw [if_pos c_37_6] at h
        refine K.aload_n (q := 41) dX8_resizes_40 rfl rfl ?_
        refine K.iconst (q := 42) (v := 5) dX8_resizes_41 rfl (by decide) ?_
        refine K.iload_n (q := 43) dX8_resizes_42 rfl rfl ?_
        refine K.iconst (q := 44) (v := 3) dX8_resizes_43 rfl (by decide) ?_
        obtain ⟨v44, X44, h9_44, h⟩ := bnd2_inv h
        refine K.callV0 (q := 47) mkX8_refused mw_X8_101 (s_X8_refused _ _ _ _ h9_44) rfl (by decide) rfl (lt141 (by decide)) rx131 (Nat.le_of_ble_eq_true rfl) (Nat.le_of_ble_eq_true rfl) (Nat.le_of_ble_eq_true rfl) dX8_resizes_44 rfl ?_
        obtain ⟨e_vo, e_Xo⟩ := ret2_inv h
        exact C.iret rfl rfl (congrArg (fun z => Sum.inl (some (Value.int z))) e_vo.symm) (congrArg mkH e_Xo) (Nat.le_of_ble_eq_true rfl) (Nat.le_of_ble_eq_true rfl) dX8_resizes_47
    · rw [if_pos c_18_4] at h
      refine K.aload_n (q := 22) dX8_resizes_21 rfl rfl ?_
      refine K.iconst (q := 23) (v := 2) dX8_resizes_22 rfl (by decide) ?_
      obtain ⟨v45, X45, h9_45, h⟩ := bnd2_inv h
      refine K.callV0 (q := 26) mkX8_fails mw_X8_98 (s_X8_fails _ _ h9_45) rfl (by decide) rfl (lt141 (by decide)) rx131 (Nat.le_of_ble_eq_true rfl) (Nat.le_of_ble_eq_true rfl) (Nat.le_of_ble_eq_true rfl) dX8_resizes_23 rfl ?_
      obtain ⟨e_vo, e_Xo⟩ := ret2_inv h
      exact C.iret rfl rfl (congrArg (fun z => Sum.inl (some (Value.int z))) e_vo.symm) (congrArg mkH e_Xo) (Nat.le_of_ble_eq_true rfl) (Nat.le_of_ble_eq_true rfl) dX8_resizes_26
  · rw [if_pos c_5_2] at h
    refine K.aload_n (q := 9) dX8_resizes_8 rfl rfl ?_
    refine K.iconst (q := 10) (v := 1) dX8_resizes_9 rfl (by decide) ?_
    obtain ⟨v46, X46, h9_46, h⟩ := bnd2_inv h
    refine K.callV0 (q := 13) mkX8_fails mw_X8_98 (s_X8_fails _ _ h9_46) rfl (by decide) rfl (lt141 (by decide)) rx131 (Nat.le_of_ble_eq_true rfl) (Nat.le_of_ble_eq_true rfl) (Nat.le_of_ble_eq_true rfl) dX8_resizes_10 rfl ?_
    obtain ⟨e_vo, e_Xo⟩ := ret2_inv h
    exact C.iret rfl rfl (congrArg (fun z => Sum.inl (some (Value.int z))) e_vo.symm) (congrArg mkH e_Xo) (Nat.le_of_ble_eq_true rfl) (Nat.le_of_ble_eq_true rfl) dX8_resizes_13

def m_X8_resize (X : GS) (loan : Int32) (amount : Int32) : Option (Int32 × GS) := (bnd1 (m_X8_looksBack X) fun (X1 : GS) => (bnd2 (m_X8_resizes X1 loan amount) fun (v2 : Int32) (X2 : GS) => (bnd2 (m_X8_kept X2 v2) fun (v3 : Int32) (X3 : GS) => (some (v3, X3)))))
set_option maxRecDepth 20000 in
set_option maxHeartbeats 1000000 in
theorem s_X8_resize (X : GS) (loan : Int32) (amount : Int32) {vo : Int32} {Xo : GS} (h : m_X8_resize X loan amount = some (vo, Xo)) : Ct 7 0 0 yX8_resize (.code yX8_resize cX8_resize 3 (some (.int))) [.ref 131, .int loan, .int amount] (mkH X) (.inl (some (.int vo))) (mkH Xo) := by
  refine Ct.of (LL := [some (.ref 131), some (.int loan), some (.int amount)]) mkX8_resize.1 owX8_resize rfl (Nat.le_of_ble_eq_true rfl) rfl (fun Wk C => ?_)
  have K := C.core
  rw [m_X8_resize] at h
  refine K.aload_n (q := 1) dX8_resize_0 rfl rfl ?_
  obtain ⟨X1, h9_1, h⟩ := bnd1_inv h
  refine K.callVv0 (q := 4) mkX8_looksBack mw_X8_112 (s_X8_looksBack _ h9_1) rfl (by decide) rfl (lt141 (by decide)) rx131 (Nat.le_of_ble_eq_true rfl) (Nat.le_of_ble_eq_true rfl) (Nat.le_of_ble_eq_true rfl) dX8_resize_1 rfl ?_
  refine K.aload_n (q := 5) dX8_resize_4 rfl rfl ?_
  refine K.aload_n (q := 6) dX8_resize_5 rfl rfl ?_
  refine K.iload_n (q := 7) dX8_resize_6 rfl rfl ?_
  refine K.iload_n (q := 8) dX8_resize_7 rfl rfl ?_
  obtain ⟨v2, X2, h9_2, h⟩ := bnd2_inv h
  refine K.callV0 (q := 11) mkX8_resizes mw_X8_148 (s_X8_resizes _ _ _ h9_2) rfl (by decide) rfl (lt141 (by decide)) rx131 (Nat.le_of_ble_eq_true rfl) (Nat.le_of_ble_eq_true rfl) (Nat.le_of_ble_eq_true rfl) dX8_resize_8 rfl ?_
  obtain ⟨v3, X3, h9_3, h⟩ := bnd2_inv h
  refine K.callV0 (q := 14) mkX8_kept mw_X8_118 (s_X8_kept _ _ h9_3) rfl (by decide) rfl (lt141 (by decide)) rx131 (Nat.le_of_ble_eq_true rfl) (Nat.le_of_ble_eq_true rfl) (Nat.le_of_ble_eq_true rfl) dX8_resize_11 rfl ?_
  obtain ⟨e_vo, e_Xo⟩ := ret2_inv h
  exact C.iret rfl rfl (congrArg (fun z => Sum.inl (some (Value.int z))) e_vo.symm) (congrArg mkH e_Xo) (Nat.le_of_ble_eq_true rfl) (Nat.le_of_ble_eq_true rfl) dX8_resize_14

def m_X8_wayIs (X : GS) (way : Int32) : Option (Int32 × GS) := (bnd1 (m_X8_in way 0 2) fun (v1 : Int32) => (if v1 = 0 then (bnd2 (m_X8_fails X 1) fun (v7 : Int32) (X7 : GS) => (some (v7, X7))) else (if ((X.2.2.1 5) 126) = way then (bnd2 (m_X8_refused X 5 way 2) fun (v6 : Int32) (X6 : GS) => (some (v6, X6))) else (bnd2 (m_X8_serves (uA X 5 (up (X.2.2.1 5) 126 way))) fun (v4 : Int32) (X4 : GS) => (bnd2 (m_X8_done X4 ((X.2.2.1 5) 126)) fun (v5 : Int32) (X5 : GS) => (some (v5, X5)))))))
set_option maxRecDepth 20000 in
set_option maxHeartbeats 1000000 in
theorem s_X8_wayIs (X : GS) (way : Int32) {vo : Int32} {Xo : GS} (h : m_X8_wayIs X way = some (vo, Xo)) : Ct 6 0 0 yX8_wayIs (.code yX8_wayIs cX8_wayIs 4 (some (.int))) [.ref 131, .int way] (mkH X) (.inl (some (.int vo))) (mkH Xo) := by
  refine Ct.of (LL := [some (.ref 131), some (.int way), none, none]) mkX8_wayIs.1 owX8_wayIs rfl (Nat.le_of_ble_eq_true rfl) rfl (fun Wk C => ?_)
  have K := C.core
  rw [m_X8_wayIs] at h
  refine K.iload_n (q := 1) dX8_wayIs_0 rfl rfl ?_
  refine K.iconst (q := 2) (v := 0) dX8_wayIs_1 rfl (by decide) ?_
  refine K.iconst (q := 3) (v := 2) dX8_wayIs_2 rfl (by decide) ?_
  obtain ⟨v1, h9_1, h⟩ := bnd1_inv h
  refine K.callS0 (q := 6) mkX8_in mw_X8_56 (s_X8_in _ _ _ _ h9_1) rfl (by decide) rfl (Nat.le_of_ble_eq_true rfl) (Nat.le_of_ble_eq_true rfl) (Nat.le_of_ble_eq_true rfl) dX8_wayIs_3 rfl ?_
  refine K.if_ne (q := 9) (tgt := 15) dX8_wayIs_6 rfl (by decide) (fun c_6_2 => ?_) (fun c_6_2 => ?_)
  · rw [if_neg c_6_2] at h
    refine K.aload_n (q := 16) dX8_wayIs_15 rfl rfl ?_
    refine K.getf (q := 19) (v := .ref 132) fo_X8_7.r rx131 (lt141 (by decide)) rfl dX8_wayIs_16 rfl ?_
    refine K.bipush (q := 21) (v := 126) dX8_wayIs_19 rfl (by decide) ?_
    refine K.ial (q := 22) (f := (X.2.2.1 5)) (m := 126) rx132 (lt141 (by decide)) rfl (by decide) (by decide) dX8_wayIs_21 rfl ?_
    refine K.istore_n (q := 23) (i := 2) dX8_wayIs_22 rfl rfl (by decide) rfl ?_
    refine K.iload_n (q := 24) dX8_wayIs_23 rfl rfl ?_
    refine K.iload_n (q := 25) dX8_wayIs_24 rfl rfl ?_
    refine K.icmp_ne (q := 28) (tgt := 36) dX8_wayIs_25 rfl (by decide) (fun c_25_3 => ?_) (fun c_25_3 => ?_)
    · rw [if_neg c_25_3] at h
      refine K.aload_n (q := 37) dX8_wayIs_36 rfl rfl ?_
      refine K.getf (q := 40) (v := .ref 132) fo_X8_7.r rx131 (lt141 (by decide)) rfl dX8_wayIs_37 rfl ?_
      refine K.bipush (q := 42) (v := 126) dX8_wayIs_40 rfl (by decide) ?_
      refine K.iload_n (q := 43) dX8_wayIs_42 rfl rfl ?_
      refine K.ias (q := 44) (f := (X.2.2.1 5)) (m := 126) rx132 (lt141 (by decide)) rfl (by decide) (by decide) pxa5 dX8_wayIs_43 rfl ?_
      refine K.aload_n (q := 45) dX8_wayIs_44 rfl rfl ?_
      obtain ⟨v4, X4, h9_4, h⟩ := bnd2_inv h
      refine K.callV0 (q := 48) mkX8_serves mw_X8_133 (s_X8_serves _ h9_4) rfl (by decide) rfl (lt141 (by decide)) rx131 (Nat.le_of_ble_eq_true rfl) (Nat.le_of_ble_eq_true rfl) (Nat.le_of_ble_eq_true rfl) dX8_wayIs_45 rfl ?_
      refine K.istore_n (q := 49) (i := 3) dX8_wayIs_48 rfl rfl (by decide) rfl ?_
      refine K.aload_n (q := 50) dX8_wayIs_49 rfl rfl ?_
      refine K.iload_n (q := 51) dX8_wayIs_50 rfl rfl ?_
      obtain ⟨v5, X5, h9_5, h⟩ := bnd2_inv h
      refine K.callV0 (q := 54) mkX8_done mw_X8_105 (s_X8_done _ _ h9_5) rfl (by decide) rfl (lt141 (by decide)) rx131 (Nat.le_of_ble_eq_true rfl) (Nat.le_of_ble_eq_true rfl) (Nat.le_of_ble_eq_true rfl) dX8_wayIs_51 rfl ?_
      obtain ⟨e_vo, e_Xo⟩ := ret2_inv h
      exact C.iret rfl rfl (congrArg (fun z => Sum.inl (some (Value.int z))) e_vo.symm) (congrArg mkH e_Xo) (Nat.le_of_ble_eq_true rfl) (Nat.le_of_ble_eq_true rfl) dX8_wayIs_54
    · rw [if_pos c_25_3] at h
      refine K.aload_n (q := 29) dX8_wayIs_28 rfl rfl ?_
      refine K.iconst (q := 30) (v := 5) dX8_wayIs_29 rfl (by decide) ?_
      refine K.iload_n (q := 31) dX8_wayIs_30 rfl rfl ?_
      refine K.iconst (q := 32) (v := 2) dX8_wayIs_31 rfl (by decide) ?_
      obtain ⟨v6, X6, h9_6, h⟩ := bnd2_inv h
      refine K.callV0 (q := 35) mkX8_refused mw_X8_101 (s_X8_refused _ _ _ _ h9_6) rfl (by decide) rfl (lt141 (by decide)) rx131 (Nat.le_of_ble_eq_true rfl) (Nat.le_of_ble_eq_true rfl) (Nat.le_of_ble_eq_true rfl) dX8_wayIs_32 rfl ?_
      obtain ⟨e_vo, e_Xo⟩ := ret2_inv h
      exact C.iret rfl rfl (congrArg (fun z => Sum.inl (some (Value.int z))) e_vo.symm) (congrArg mkH e_Xo) (Nat.le_of_ble_eq_true rfl) (Nat.le_of_ble_eq_true rfl) dX8_wayIs_35
  · rw [if_pos c_6_2] at h
    refine K.aload_n (q := 10) dX8_wayIs_9 rfl rfl ?_
    refine K.iconst (q := 11) (v := 1) dX8_wayIs_10 rfl (by decide) ?_
    obtain ⟨v7, X7, h9_7, h⟩ := bnd2_inv h
    refine K.callV0 (q := 14) mkX8_fails mw_X8_98 (s_X8_fails _ _ h9_7) rfl (by decide) rfl (lt141 (by decide)) rx131 (Nat.le_of_ble_eq_true rfl) (Nat.le_of_ble_eq_true rfl) (Nat.le_of_ble_eq_true rfl) dX8_wayIs_11 rfl ?_
    obtain ⟨e_vo, e_Xo⟩ := ret2_inv h
    exact C.iret rfl rfl (congrArg (fun z => Sum.inl (some (Value.int z))) e_vo.symm) (congrArg mkH e_Xo) (Nat.le_of_ble_eq_true rfl) (Nat.le_of_ble_eq_true rfl) dX8_wayIs_14

def m_X8_way (X : GS) (way : Int32) : Option (Int32 × GS) := (bnd1 (m_X8_looksBack X) fun (X1 : GS) => (bnd2 (m_X8_wayIs X1 way) fun (v2 : Int32) (X2 : GS) => (bnd2 (m_X8_kept X2 v2) fun (v3 : Int32) (X3 : GS) => (some (v3, X3)))))
set_option maxRecDepth 20000 in
set_option maxHeartbeats 1000000 in
theorem s_X8_way (X : GS) (way : Int32) {vo : Int32} {Xo : GS} (h : m_X8_way X way = some (vo, Xo)) : Ct 7 0 0 yX8_way (.code yX8_way cX8_way 2 (some (.int))) [.ref 131, .int way] (mkH X) (.inl (some (.int vo))) (mkH Xo) := by
  refine Ct.of (LL := [some (.ref 131), some (.int way)]) mkX8_way.1 owX8_way rfl (Nat.le_of_ble_eq_true rfl) rfl (fun Wk C => ?_)
  have K := C.core
  rw [m_X8_way] at h
  refine K.aload_n (q := 1) dX8_way_0 rfl rfl ?_
  obtain ⟨X1, h9_1, h⟩ := bnd1_inv h
  refine K.callVv0 (q := 4) mkX8_looksBack mw_X8_112 (s_X8_looksBack _ h9_1) rfl (by decide) rfl (lt141 (by decide)) rx131 (Nat.le_of_ble_eq_true rfl) (Nat.le_of_ble_eq_true rfl) (Nat.le_of_ble_eq_true rfl) dX8_way_1 rfl ?_
  refine K.aload_n (q := 5) dX8_way_4 rfl rfl ?_
  refine K.aload_n (q := 6) dX8_way_5 rfl rfl ?_
  refine K.iload_n (q := 7) dX8_way_6 rfl rfl ?_
  obtain ⟨v2, X2, h9_2, h⟩ := bnd2_inv h
  refine K.callV0 (q := 10) mkX8_wayIs mw_X8_151 (s_X8_wayIs _ _ h9_2) rfl (by decide) rfl (lt141 (by decide)) rx131 (Nat.le_of_ble_eq_true rfl) (Nat.le_of_ble_eq_true rfl) (Nat.le_of_ble_eq_true rfl) dX8_way_7 rfl ?_
  obtain ⟨v3, X3, h9_3, h⟩ := bnd2_inv h
  refine K.callV0 (q := 13) mkX8_kept mw_X8_118 (s_X8_kept _ _ h9_3) rfl (by decide) rfl (lt141 (by decide)) rx131 (Nat.le_of_ble_eq_true rfl) (Nat.le_of_ble_eq_true rfl) (Nat.le_of_ble_eq_true rfl) dX8_way_10 rfl ?_
  obtain ⟨e_vo, e_Xo⟩ := ret2_inv h
  exact C.iret rfl rfl (congrArg (fun z => Sum.inl (some (Value.int z))) e_vo.symm) (congrArg mkH e_Xo) (Nat.le_of_ble_eq_true rfl) (Nat.le_of_ble_eq_true rfl) dX8_way_13

def m_X8_forgets (X : GS) (place : Int32) : Option (Int32 × GS) := (bnd1 (m_X8_in place 0 (((X.2.2.1 5) 113) - 1)) fun (v1 : Int32) => (if v1 = 0 then (bnd2 (m_X8_fails X 1) fun (v5 : Int32) (X5 : GS) => (some (v5, X5))) else (bnd1 (m_X8_leaves X place) fun (X3 : GS) => (bnd2 (m_X8_done X3 ((X3.2.2.1 5) 113)) fun (v4 : Int32) (X4 : GS) => (some (v4, X4))))))
set_option maxRecDepth 20000 in
set_option maxHeartbeats 1000000 in
theorem s_X8_forgets (X : GS) (place : Int32) {vo : Int32} {Xo : GS} (h : m_X8_forgets X place = some (vo, Xo)) : Ct 2 0 0 yX8_forgets (.code yX8_forgets cX8_forgets 2 (some (.int))) [.ref 131, .int place] (mkH X) (.inl (some (.int vo))) (mkH Xo) := by
  refine Ct.of (LL := [some (.ref 131), some (.int place)]) mkX8_forgets.1 owX8_forgets rfl (Nat.le_of_ble_eq_true rfl) rfl (fun Wk C => ?_)
  have K := C.core
  rw [m_X8_forgets] at h
  refine K.iload_n (q := 1) dX8_forgets_0 rfl rfl ?_
  refine K.iconst (q := 2) (v := 0) dX8_forgets_1 rfl (by decide) ?_
  refine K.aload_n (q := 3) dX8_forgets_2 rfl rfl ?_
  refine K.getf (q := 6) (v := .ref 132) fo_X8_7.r rx131 (lt141 (by decide)) rfl dX8_forgets_3 rfl ?_
  refine K.bipush (q := 8) (v := 113) dX8_forgets_6 rfl (by decide) ?_
  refine K.ial (q := 9) (f := (X.2.2.1 5)) (m := 113) rx132 (lt141 (by decide)) rfl (by decide) (by decide) dX8_forgets_8 rfl ?_
  refine K.iconst (q := 10) (v := 1) dX8_forgets_9 rfl (by decide) ?_
  refine K.isub (q := 11) dX8_forgets_10 rfl ?_
  obtain ⟨v1, h9_1, h⟩ := bnd1_inv h
  refine K.callS0 (q := 14) mkX8_in mw_X8_56 (s_X8_in _ _ _ _ h9_1) rfl (by decide) rfl (Nat.le_of_ble_eq_true rfl) (Nat.le_of_ble_eq_true rfl) (Nat.le_of_ble_eq_true rfl) dX8_forgets_11 rfl ?_
  refine K.if_ne (q := 17) (tgt := 23) dX8_forgets_14 rfl (by decide) (fun c_14_2 => ?_) (fun c_14_2 => ?_)
  · rw [if_neg c_14_2] at h
    refine K.aload_n (q := 24) dX8_forgets_23 rfl rfl ?_
    refine K.iload_n (q := 25) dX8_forgets_24 rfl rfl ?_
    obtain ⟨X3, h9_3, h⟩ := bnd1_inv h
    refine K.callVv0 (q := 28) mkX8_leaves mw_X8_88 (s_X8_leaves _ _ h9_3) rfl (by decide) rfl (lt141 (by decide)) rx131 (Nat.le_of_ble_eq_true rfl) (Nat.le_of_ble_eq_true rfl) (Nat.le_of_ble_eq_true rfl) dX8_forgets_25 rfl ?_
    refine K.aload_n (q := 29) dX8_forgets_28 rfl rfl ?_
    refine K.aload_n (q := 30) dX8_forgets_29 rfl rfl ?_
    refine K.getf (q := 33) (v := .ref 132) fo_X8_7.r rx131 (lt141 (by decide)) rfl dX8_forgets_30 rfl ?_
    refine K.bipush (q := 35) (v := 113) dX8_forgets_33 rfl (by decide) ?_
    refine K.ial (q := 36) (f := (X3.2.2.1 5)) (m := 113) rx132 (lt141 (by decide)) rfl (by decide) (by decide) dX8_forgets_35 rfl ?_
    obtain ⟨v4, X4, h9_4, h⟩ := bnd2_inv h
    refine K.callV0 (q := 39) mkX8_done mw_X8_105 (s_X8_done _ _ h9_4) rfl (by decide) rfl (lt141 (by decide)) rx131 (Nat.le_of_ble_eq_true rfl) (Nat.le_of_ble_eq_true rfl) (Nat.le_of_ble_eq_true rfl) dX8_forgets_36 rfl ?_
    obtain ⟨e_vo, e_Xo⟩ := ret2_inv h
    exact C.iret rfl rfl (congrArg (fun z => Sum.inl (some (Value.int z))) e_vo.symm) (congrArg mkH e_Xo) (Nat.le_of_ble_eq_true rfl) (Nat.le_of_ble_eq_true rfl) dX8_forgets_39
  · rw [if_pos c_14_2] at h
    refine K.aload_n (q := 18) dX8_forgets_17 rfl rfl ?_
    refine K.iconst (q := 19) (v := 1) dX8_forgets_18 rfl (by decide) ?_
    obtain ⟨v5, X5, h9_5, h⟩ := bnd2_inv h
    refine K.callV0 (q := 22) mkX8_fails mw_X8_98 (s_X8_fails _ _ h9_5) rfl (by decide) rfl (lt141 (by decide)) rx131 (Nat.le_of_ble_eq_true rfl) (Nat.le_of_ble_eq_true rfl) (Nat.le_of_ble_eq_true rfl) dX8_forgets_19 rfl ?_
    obtain ⟨e_vo, e_Xo⟩ := ret2_inv h
    exact C.iret rfl rfl (congrArg (fun z => Sum.inl (some (Value.int z))) e_vo.symm) (congrArg mkH e_Xo) (Nat.le_of_ble_eq_true rfl) (Nat.le_of_ble_eq_true rfl) dX8_forgets_22

def m_X8_forget (X : GS) (place : Int32) : Option (Int32 × GS) := (bnd1 (m_X8_looksBack X) fun (X1 : GS) => (bnd2 (m_X8_forgets X1 place) fun (v2 : Int32) (X2 : GS) => (bnd2 (m_X8_kept X2 v2) fun (v3 : Int32) (X3 : GS) => (some (v3, X3)))))
set_option maxRecDepth 20000 in
set_option maxHeartbeats 1000000 in
theorem s_X8_forget (X : GS) (place : Int32) {vo : Int32} {Xo : GS} (h : m_X8_forget X place = some (vo, Xo)) : Ct 3 0 0 yX8_forget (.code yX8_forget cX8_forget 2 (some (.int))) [.ref 131, .int place] (mkH X) (.inl (some (.int vo))) (mkH Xo) := by
  refine Ct.of (LL := [some (.ref 131), some (.int place)]) mkX8_forget.1 owX8_forget rfl (Nat.le_of_ble_eq_true rfl) rfl (fun Wk C => ?_)
  have K := C.core
  rw [m_X8_forget] at h
  refine K.aload_n (q := 1) dX8_forget_0 rfl rfl ?_
  obtain ⟨X1, h9_1, h⟩ := bnd1_inv h
  refine K.callVv0 (q := 4) mkX8_looksBack mw_X8_112 (s_X8_looksBack _ h9_1) rfl (by decide) rfl (lt141 (by decide)) rx131 (Nat.le_of_ble_eq_true rfl) (Nat.le_of_ble_eq_true rfl) (Nat.le_of_ble_eq_true rfl) dX8_forget_1 rfl ?_
  refine K.aload_n (q := 5) dX8_forget_4 rfl rfl ?_
  refine K.aload_n (q := 6) dX8_forget_5 rfl rfl ?_
  refine K.iload_n (q := 7) dX8_forget_6 rfl rfl ?_
  obtain ⟨v2, X2, h9_2, h⟩ := bnd2_inv h
  refine K.callV0 (q := 10) mkX8_forgets mw_X8_154 (s_X8_forgets _ _ h9_2) rfl (by decide) rfl (lt141 (by decide)) rx131 (Nat.le_of_ble_eq_true rfl) (Nat.le_of_ble_eq_true rfl) (Nat.le_of_ble_eq_true rfl) dX8_forget_7 rfl ?_
  obtain ⟨v3, X3, h9_3, h⟩ := bnd2_inv h
  refine K.callV0 (q := 13) mkX8_kept mw_X8_118 (s_X8_kept _ _ h9_3) rfl (by decide) rfl (lt141 (by decide)) rx131 (Nat.le_of_ble_eq_true rfl) (Nat.le_of_ble_eq_true rfl) (Nat.le_of_ble_eq_true rfl) dX8_forget_10 rfl ?_
  obtain ⟨e_vo, e_Xo⟩ := ret2_inv h
  exact C.iret rfl rfl (congrArg (fun z => Sum.inl (some (Value.int z))) e_vo.symm) (congrArg mkH e_Xo) (Nat.le_of_ble_eq_true rfl) (Nat.le_of_ble_eq_true rfl) dX8_forget_13
