def m_X8_writes (X : GS) (c : Int32) : Option (GS) := (if inR (X.2.1 18) 400 then (some (uS (uA X 10 (up (X.2.2.1 10) ((X.2.1 18).toNatClampNeg) (vp_nar .char ((c.toUInt32 % 65536).toInt32)))) 18 ((X.2.1 18) + 1))) else none)
set_option maxRecDepth 20000 in
set_option maxHeartbeats 1000000 in
theorem s_X8_writes (X : GS) (c : Int32) {Xo : GS} (h : m_X8_writes X c = some Xo) : Ct 1 0 0 yX8_writes (.code yX8_writes cX8_writes 2 none) [.ref 131, .int c] (mkH X) (.inl none) (mkH Xo) := by
  refine Ct.of (LL := [some (.ref 131), some (.int c)]) mkX8_writes.1 owX8_writes rfl (Nat.le_of_ble_eq_true rfl) rfl (fun Wk C => ?_)
  have K := C.core
  rw [m_X8_writes] at h
  refine K.aload_n (q := 1) dX8_writes_0 rfl rfl ?_
  refine K.getf (q := 4) (v := .ref 137) fo_X8_30.r rx131 (lt141 (by decide)) rfl dX8_writes_1 rfl ?_
  refine K.aload_n (q := 5) dX8_writes_4 rfl rfl ?_
  refine K.getf (q := 8) (v := .int (X.2.1 18)) fo_X8_172.r rx131 (lt141 (by decide)) rfl dX8_writes_5 rfl ?_
  refine K.iload_n (q := 9) dX8_writes_8 rfl rfl ?_
  refine K.i2c (q := 10) dX8_writes_9 rfl ?_
  obtain ⟨k_1, h⟩ := chk_inv h
  refine K.cas (q := 11) (f := (X.2.2.1 10)) (m := ((X.2.1 18).toNatClampNeg)) rx137 (lt141 (by decide)) rfl (cl_nI k_1.1) k_1.2 (by decide) pxa10 dX8_writes_10 rfl ?_
  refine K.aload_n (q := 12) dX8_writes_11 rfl rfl ?_
  refine K.dup (q := 13) dX8_writes_12 rfl rfl ?_
  refine K.getf (q := 16) (v := .int (X.2.1 18)) fo_X8_172.r rx131 (lt141 (by decide)) rfl dX8_writes_13 rfl ?_
  refine K.iconst (q := 17) (v := 1) dX8_writes_16 rfl (by decide) ?_
  refine K.iadd (q := 18) dX8_writes_17 rfl ?_
  refine K.putf (q := 21) fo_X8_172 rx131 (lt141 (by decide)) (Nat.le_of_ble_eq_true rfl) (fun _ => rfl) (fun _ => rfl) pxs18 dX8_writes_18 rfl ?_
  obtain e_Xo := ret1_inv h
  exact C.vret rfl rfl (congrArg mkH e_Xo) (Nat.le_of_ble_eq_true rfl) (Nat.le_of_ble_eq_true rfl) dX8_writes_21

def m_X8_writesNumber (X : GS) (v : Int32) : Option (GS) := (if v ≤ 9 then (bnd1 (m_X8_writes X (48 + (v - v / 10 * 10))) fun (X2 : GS) => (some X2)) else (bnd1 (m_X8_writes X (48 + (v / 10))) fun (X3 : GS) => (bnd1 (m_X8_writes X3 (48 + (v - v / 10 * 10))) fun (X4 : GS) => (some X4))))
set_option maxRecDepth 20000 in
set_option maxHeartbeats 1000000 in
theorem s_X8_writesNumber (X : GS) (v : Int32) {Xo : GS} (h : m_X8_writesNumber X v = some Xo) : Ct 2 0 0 yX8_writesNumber (.code yX8_writesNumber cX8_writesNumber 2 none) [.ref 131, .int v] (mkH X) (.inl none) (mkH Xo) := by
  refine Ct.of (LL := [some (.ref 131), some (.int v)]) mkX8_writesNumber.1 owX8_writesNumber rfl (Nat.le_of_ble_eq_true rfl) rfl (fun Wk C => ?_)
  have K := C.core
  rw [m_X8_writesNumber] at h
  refine K.iload_n (q := 1) dX8_writesNumber_0 rfl rfl ?_
  refine K.bipush (q := 3) (v := 9) dX8_writesNumber_1 rfl (by decide) ?_
  refine K.icmp_le (q := 6) (tgt := 17) dX8_writesNumber_3 rfl (by decide) (fun c_3_1 => ?_) (fun c_3_1 => ?_)
  · rw [if_pos c_3_1] at h
    refine K.aload_n (q := 18) dX8_writesNumber_17 rfl rfl ?_
    refine K.bipush (q := 20) (v := 48) dX8_writesNumber_18 rfl (by decide) ?_
    refine K.iload_n (q := 21) dX8_writesNumber_20 rfl rfl ?_
    refine K.bipush (q := 23) (v := 10) dX8_writesNumber_21 rfl (by decide) ?_
    refine K.irem (q := 24) dX8_writesNumber_23 rfl (by decide) ?_
    refine K.iadd (q := 25) dX8_writesNumber_24 rfl ?_
    obtain ⟨X2, h9_2, h⟩ := bnd1_inv h
    refine K.callVv0 (q := 28) mkX8_writes mw_X8_175 (s_X8_writes _ _ h9_2) rfl (by decide) rfl (lt141 (by decide)) rx131 (Nat.le_of_ble_eq_true rfl) (Nat.le_of_ble_eq_true rfl) (Nat.le_of_ble_eq_true rfl) dX8_writesNumber_25 rfl ?_
    obtain e_Xo := ret1_inv h
    exact C.vret rfl rfl (congrArg mkH e_Xo) (Nat.le_of_ble_eq_true rfl) (Nat.le_of_ble_eq_true rfl) dX8_writesNumber_28
  · rw [if_neg c_3_1] at h
    refine K.aload_n (q := 7) dX8_writesNumber_6 rfl rfl ?_
    refine K.bipush (q := 9) (v := 48) dX8_writesNumber_7 rfl (by decide) ?_
    refine K.iload_n (q := 10) dX8_writesNumber_9 rfl rfl ?_
    refine K.bipush (q := 12) (v := 10) dX8_writesNumber_10 rfl (by decide) ?_
    refine K.idiv (q := 13) dX8_writesNumber_12 rfl (by decide) ?_
    refine K.iadd (q := 14) dX8_writesNumber_13 rfl ?_
    obtain ⟨X3, h9_3, h⟩ := bnd1_inv h
    refine K.callVv0 (q := 17) mkX8_writes mw_X8_175 (s_X8_writes _ _ h9_3) rfl (by decide) rfl (lt141 (by decide)) rx131 (Nat.le_of_ble_eq_true rfl) (Nat.le_of_ble_eq_true rfl) (Nat.le_of_ble_eq_true rfl) dX8_writesNumber_14 rfl ?_
    refine K.aload_n (q := 18) dX8_writesNumber_17 rfl rfl ?_
    refine K.bipush (q := 20) (v := 48) dX8_writesNumber_18 rfl (by decide) ?_
    refine K.iload_n (q := 21) dX8_writesNumber_20 rfl rfl ?_
    refine K.bipush (q := 23) (v := 10) dX8_writesNumber_21 rfl (by decide) ?_
    refine K.irem (q := 24) dX8_writesNumber_23 rfl (by decide) ?_
    refine K.iadd (q := 25) dX8_writesNumber_24 rfl ?_
    obtain ⟨X4, h9_4, h⟩ := bnd1_inv h
    refine K.callVv0 (q := 28) mkX8_writes mw_X8_175 (s_X8_writes _ _ h9_4) rfl (by decide) rfl (lt141 (by decide)) rx131 (Nat.le_of_ble_eq_true rfl) (Nat.le_of_ble_eq_true rfl) (Nat.le_of_ble_eq_true rfl) dX8_writesNumber_25 rfl ?_
    obtain e_Xo := ret1_inv h
    exact C.vret rfl rfl (congrArg mkH e_Xo) (Nat.le_of_ble_eq_true rfl) (Nat.le_of_ble_eq_true rfl) dX8_writesNumber_28

def lp_X8_line_7 : Nat → Nat → GS → Option (GS)
  | 0, _, XX7 => some XX7
  | j7 + 1, i7, XX7 => (if ((XX7.2.2.1 5) i7) ≤ 0 then (lp_X8_line_7 j7 (i7 + 1) XX7) else (if (XX7.2.1 18) ≤ 0 then (bnd1 (m_X8_writesNumber XX7 ((XX7.2.2.1 5) i7)) fun (X5 : GS) => (bnd1 (m_X8_loanAt X5 (nI i7)) fun (v6 : Int32) => (if v6 = (-1) then (bnd1 (m_X8_writes X5 46) fun (X11 : GS) => (if v6 = (-1) then (lp_X8_line_7 j7 (i7 + 1) X11) else (bnd1 (m_X8_writesNumber X11 v6) fun (X13 : GS) => (lp_X8_line_7 j7 (i7 + 1) X13)))) else (bnd1 (m_X8_writes X5 61) fun (X8 : GS) => (if v6 = (-1) then (lp_X8_line_7 j7 (i7 + 1) X8) else (bnd1 (m_X8_writesNumber X8 v6) fun (X10 : GS) => (lp_X8_line_7 j7 (i7 + 1) X10))))))) else (bnd1 (m_X8_writes XX7 32) fun (X14 : GS) => (bnd1 (m_X8_writesNumber X14 ((X14.2.2.1 5) i7)) fun (X15 : GS) => (bnd1 (m_X8_loanAt X15 (nI i7)) fun (v16 : Int32) => (if v16 = (-1) then (bnd1 (m_X8_writes X15 46) fun (X21 : GS) => (if v16 = (-1) then (lp_X8_line_7 j7 (i7 + 1) X21) else (bnd1 (m_X8_writesNumber X21 v16) fun (X23 : GS) => (lp_X8_line_7 j7 (i7 + 1) X23)))) else (bnd1 (m_X8_writes X15 61) fun (X18 : GS) => (if v16 = (-1) then (lp_X8_line_7 j7 (i7 + 1) X18) else (bnd1 (m_X8_writesNumber X18 v16) fun (X20 : GS) => (lp_X8_line_7 j7 (i7 + 1) X20))))))))))

def m_X8_line (X : GS) : Option (Int32 × GS) := (bnd1 (lp_X8_line_7 64 0 (uS X 18 0)) fun (XX7_24 : GS) => (bnd2 (m_X8_done XX7_24 (XX7_24.2.1 18)) fun (v25 : Int32) (X25 : GS) => (some (v25, X25))))
set_option maxRecDepth 20000 in
set_option maxHeartbeats 1000000 in
theorem s_X8_line (X : GS) {vo : Int32} {Xo : GS} (h : m_X8_line X = some (vo, Xo)) : Ct 3 0 0 yX8_line (.code yX8_line cX8_line 3 (some (.int))) [.ref 131] (mkH X) (.inl (some (.int vo))) (mkH Xo) := by
  refine Ct.of (LL := [some (.ref 131), none, none]) mkX8_line.1 owX8_line rfl (Nat.le_of_ble_eq_true rfl) rfl (fun Wk C => ?_)
  have K := C.core
  rw [m_X8_line] at h
  refine K.aload_n (q := 1) dX8_line_0 rfl rfl ?_
  refine K.iconst (q := 2) (v := 0) dX8_line_1 rfl (by decide) ?_
  refine K.putf (q := 5) fo_X8_172 rx131 (lt141 (by decide)) (Nat.le_of_ble_eq_true rfl) (fun _ => rfl) (fun _ => rfl) pxs18 dX8_line_2 rfl ?_
  refine K.iconst (q := 6) (v := 0) dX8_line_5 rfl (by decide) ?_
  refine K.istore_n (q := 7) (i := 1) dX8_line_6 rfl rfl (by decide) rfl ?_
  have L7 : ∀ (j7 i7 : Nat) (XX7 : GS) (XX7r : GS), i7 + j7 = 64 → lp_X8_line_7 j7 i7 XX7 = some XX7r → (Wk 0 0 83 [some (.ref 131), none, none] [] (mkH XX7r)) → Wk 0 0 7 [some (.ref 131), some (.int (nI i7)), none] [] (mkH XX7) := by
    intro j7
    induction j7 with
    | zero =>
      intro i7 XX7 XX7r hij h hx
      rw [lp_X8_line_7] at h
      refine K.iload_n (q := 8) dX8_line_7 rfl rfl ?_
      refine K.bipush (q := 10) (v := 64) dX8_line_8 rfl (by decide) ?_
      refine K.icmp_ge (q := 13) (tgt := 83) dX8_line_10 rfl (by decide) (fun _ => ?_) (fun z => absurd z (not_not_intro (nI_le (a := 64) (b := i7) (by omega) (by omega))))
      refine K.drop 1 ?_
      obtain q0 := ret1_inv h
      subst q0
      exact hx
    | succ j7 ih =>
      intro i7 XX7 XX7r hij h hx
      rw [lp_X8_line_7] at h
      refine K.iload_n (q := 8) dX8_line_7 rfl rfl ?_
      refine K.bipush (q := 10) (v := 64) dX8_line_8 rfl (by decide) ?_
      refine K.icmp_ge (q := 13) (tgt := 83) dX8_line_10 rfl (by decide) (fun z => absurd z (nI_ge (a := i7) (b := 64) (by omega) (by omega))) (fun _ => ?_)
      refine K.aload_n (q := 14) dX8_line_13 rfl rfl ?_
      refine K.getf (q := 17) (v := .ref 132) fo_X8_7.r rx131 (lt141 (by decide)) rfl dX8_line_14 rfl ?_
      refine K.iload_n (q := 18) dX8_line_17 rfl rfl ?_
      refine K.ial (q := 19) (f := (XX7.2.2.1 5)) (m := i7) rx132 (lt141 (by decide)) rfl (by omega) (by decide) dX8_line_18 rfl ?_
      refine K.if_le (q := 22) (tgt := 77) dX8_line_19 rfl (by decide) (fun c_19_3 => ?_) (fun c_19_3 => ?_)
      · rw [if_pos c_19_3] at h
        refine K.iinc (q := 80) (v := (nI (i7 + 1))) dX8_line_77 rfl rfl (nI_1 _) (by decide) rfl ?_
        refine K.goto (tgt := 7) dX8_line_80 (by decide) ?_
        exact ih (i7 + 1) XX7 _ (by omega) h hx
      · rw [if_neg c_19_3] at h
        refine K.aload_n (q := 23) dX8_line_22 rfl rfl ?_
        refine K.getf (q := 26) (v := .int (XX7.2.1 18)) fo_X8_172.r rx131 (lt141 (by decide)) rfl dX8_line_23 rfl ?_
        refine K.if_le (q := 29) (tgt := 35) dX8_line_26 rfl (by decide) (fun c_26_4 => ?_) (fun c_26_4 => ?_)
        · rw [if_pos c_26_4] at h
          refine K.aload_n (q := 36) dX8_line_35 rfl rfl ?_
          refine K.aload_n (q := 37) dX8_line_36 rfl rfl ?_
          refine K.getf (q := 40) (v := .ref 132) fo_X8_7.r rx131 (lt141 (by decide)) rfl dX8_line_37 rfl ?_
          refine K.iload_n (q := 41) dX8_line_40 rfl rfl ?_
          refine K.ial (q := 42) (f := (XX7.2.2.1 5)) (m := i7) rx132 (lt141 (by decide)) rfl (by omega) (by decide) dX8_line_41 rfl ?_
          obtain ⟨X5, h9_5, h⟩ := bnd1_inv h
          refine K.callVv0 (q := 45) mkX8_writesNumber mw_X8_178 (s_X8_writesNumber _ _ h9_5) rfl (by decide) rfl (lt141 (by decide)) rx131 (Nat.le_of_ble_eq_true rfl) (Nat.le_of_ble_eq_true rfl) (Nat.le_of_ble_eq_true rfl) dX8_line_42 rfl ?_
          refine K.aload_n (q := 46) dX8_line_45 rfl rfl ?_
          refine K.iload_n (q := 47) dX8_line_46 rfl rfl ?_
          obtain ⟨v6, h9_6, h⟩ := bnd1_inv h
          refine K.callV0 (q := 50) mkX8_loanAt mw_X8_60 (s_X8_loanAt _ _ h9_6) rfl (by decide) rfl (lt141 (by decide)) rx131 (Nat.le_of_ble_eq_true rfl) (Nat.le_of_ble_eq_true rfl) (Nat.le_of_ble_eq_true rfl) dX8_line_47 rfl ?_
          refine K.istore_n (q := 51) (i := 2) dX8_line_50 rfl rfl (by decide) rfl ?_
          refine K.aload_n (q := 52) dX8_line_51 rfl rfl ?_
          refine K.iload_n (q := 53) dX8_line_52 rfl rfl ?_
          refine K.iconst (q := 54) (v := (-1)) dX8_line_53 rfl (by decide) ?_
          refine K.icmp_ne (q := 57) (tgt := 62) dX8_line_54 rfl (by decide) (fun c_54_7 => ?_) (fun c_54_7 => ?_)
          · rw [if_neg c_54_7] at h
            refine K.bipush (q := 64) (v := 61) dX8_line_62 rfl (by decide) ?_
            obtain ⟨X8, h9_8, h⟩ := bnd1_inv h
            refine K.callVv0 (q := 67) mkX8_writes mw_X8_175 (s_X8_writes _ _ h9_8) rfl (by decide) rfl (lt141 (by decide)) rx131 (Nat.le_of_ble_eq_true rfl) (Nat.le_of_ble_eq_true rfl) (Nat.le_of_ble_eq_true rfl) dX8_line_64 rfl ?_
            refine K.iload_n (q := 68) dX8_line_67 rfl rfl ?_
            refine K.iconst (q := 69) (v := (-1)) dX8_line_68 rfl (by decide) ?_
            refine K.icmp_eq (q := 72) (tgt := 77) dX8_line_69 rfl (by decide) (fun c_69_9 => ?_) (fun c_69_9 => ?_)
            · rw [if_pos c_69_9] at h
              refine K.iinc (q := 80) (v := (nI (i7 + 1))) dX8_line_77 rfl rfl (nI_1 _) (by decide) rfl ?_
              refine K.goto (tgt := 7) dX8_line_80 (by decide) ?_
              refine K.drop 2 ?_
              exact ih (i7 + 1) X8 _ (by omega) h hx
            · rw [if_neg c_69_9] at h
              refine K.aload_n (q := 73) dX8_line_72 rfl rfl ?_
              refine K.iload_n (q := 74) dX8_line_73 rfl rfl ?_
              obtain ⟨X10, h9_10, h⟩ := bnd1_inv h
              refine K.callVv0 (q := 77) mkX8_writesNumber mw_X8_178 (s_X8_writesNumber _ _ h9_10) rfl (by decide) rfl (lt141 (by decide)) rx131 (Nat.le_of_ble_eq_true rfl) (Nat.le_of_ble_eq_true rfl) (Nat.le_of_ble_eq_true rfl) dX8_line_74 rfl ?_
              refine K.iinc (q := 80) (v := (nI (i7 + 1))) dX8_line_77 rfl rfl (nI_1 _) (by decide) rfl ?_
              refine K.goto (tgt := 7) dX8_line_80 (by decide) ?_
              refine K.drop 2 ?_
              exact ih (i7 + 1) X10 _ (by omega) h hx
          · rw [if_pos c_54_7] at h
            refine K.bipush (q := 59) (v := 46) dX8_line_57 rfl (by decide) ?_
            refine K.goto (tgt := 64) dX8_line_59 (by decide) ?_
            obtain ⟨X11, h9_11, h⟩ := bnd1_inv h
            refine K.callVv0 (q := 67) mkX8_writes mw_X8_175 (s_X8_writes _ _ h9_11) rfl (by decide) rfl (lt141 (by decide)) rx131 (Nat.le_of_ble_eq_true rfl) (Nat.le_of_ble_eq_true rfl) (Nat.le_of_ble_eq_true rfl) dX8_line_64 rfl ?_
            refine K.iload_n (q := 68) dX8_line_67 rfl rfl ?_
            refine K.iconst (q := 69) (v := (-1)) dX8_line_68 rfl (by decide) ?_
            refine K.icmp_eq (q := 72) (tgt := 77) dX8_line_69 rfl (by decide) (fun c_69_12 => ?_) (fun c_69_12 => ?_)
            · rw [if_pos c_69_12] at h
              refine K.iinc (q := 80) (v := (nI (i7 + 1))) dX8_line_77 rfl rfl (nI_1 _) (by decide) rfl ?_
              refine K.goto (tgt := 7) dX8_line_80 (by decide) ?_
              refine K.drop 2 ?_
              exact ih (i7 + 1) X11 _ (by omega) h hx
            · rw [if_neg c_69_12] at h
              refine K.aload_n (q := 73) dX8_line_72 rfl rfl ?_
              refine K.iload_n (q := 74) dX8_line_73 rfl rfl ?_
              obtain ⟨X13, h9_13, h⟩ := bnd1_inv h
              refine K.callVv0 (q := 77) mkX8_writesNumber mw_X8_178 (s_X8_writesNumber _ _ h9_13) rfl (by decide) rfl (lt141 (by decide)) rx131 (Nat.le_of_ble_eq_true rfl) (Nat.le_of_ble_eq_true rfl) (Nat.le_of_ble_eq_true rfl) dX8_line_74 rfl ?_
              refine K.iinc (q := 80) (v := (nI (i7 + 1))) dX8_line_77 rfl rfl (nI_1 _) (by decide) rfl ?_
              refine K.goto (tgt := 7) dX8_line_80 (by decide) ?_
              refine K.drop 2 ?_
              exact ih (i7 + 1) X13 _ (by omega) h hx
        · rw [if_neg c_26_4] at h
          refine K.aload_n (q := 30) dX8_line_29 rfl rfl ?_
          refine K.bipush (q := 32) (v := 32) dX8_line_30 rfl (by decide) ?_
          obtain ⟨X14, h9_14, h⟩ := bnd1_inv h
          refine K.callVv0 (q := 35) mkX8_writes mw_X8_175 (s_X8_writes _ _ h9_14) rfl (by decide) rfl (lt141 (by decide)) rx131 (Nat.le_of_ble_eq_true rfl) (Nat.le_of_ble_eq_true rfl) (Nat.le_of_ble_eq_true rfl) dX8_line_32 rfl ?_
          refine K.aload_n (q := 36) dX8_line_35 rfl rfl ?_
          refine K.aload_n (q := 37) dX8_line_36 rfl rfl ?_
          refine K.getf (q := 40) (v := .ref 132) fo_X8_7.r rx131 (lt141 (by decide)) rfl dX8_line_37 rfl ?_
          refine K.iload_n (q := 41) dX8_line_40 rfl rfl ?_
          refine K.ial (q := 42) (f := (X14.2.2.1 5)) (m := i7) rx132 (lt141 (by decide)) rfl (by omega) (by decide) dX8_line_41 rfl ?_
          obtain ⟨X15, h9_15, h⟩ := bnd1_inv h
          refine K.callVv0 (q := 45) mkX8_writesNumber mw_X8_178 (s_X8_writesNumber _ _ h9_15) rfl (by decide) rfl (lt141 (by decide)) rx131 (Nat.le_of_ble_eq_true rfl) (Nat.le_of_ble_eq_true rfl) (Nat.le_of_ble_eq_true rfl) dX8_line_42 rfl ?_
          refine K.aload_n (q := 46) dX8_line_45 rfl rfl ?_
          refine K.iload_n (q := 47) dX8_line_46 rfl rfl ?_
          obtain ⟨v16, h9_16, h⟩ := bnd1_inv h
          refine K.callV0 (q := 50) mkX8_loanAt mw_X8_60 (s_X8_loanAt _ _ h9_16) rfl (by decide) rfl (lt141 (by decide)) rx131 (Nat.le_of_ble_eq_true rfl) (Nat.le_of_ble_eq_true rfl) (Nat.le_of_ble_eq_true rfl) dX8_line_47 rfl ?_
          refine K.istore_n (q := 51) (i := 2) dX8_line_50 rfl rfl (by decide) rfl ?_
          refine K.aload_n (q := 52) dX8_line_51 rfl rfl ?_
          refine K.iload_n (q := 53) dX8_line_52 rfl rfl ?_
          refine K.iconst (q := 54) (v := (-1)) dX8_line_53 rfl (by decide) ?_
          refine K.icmp_ne (q := 57) (tgt := 62) dX8_line_54 rfl (by decide) (fun c_54_17 => ?_) (fun c_54_17 => ?_)
          · rw [if_neg c_54_17] at h
            refine K.bipush (q := 64) (v := 61) dX8_line_62 rfl (by decide) ?_
            obtain ⟨X18, h9_18, h⟩ := bnd1_inv h
            refine K.callVv0 (q := 67) mkX8_writes mw_X8_175 (s_X8_writes _ _ h9_18) rfl (by decide) rfl (lt141 (by decide)) rx131 (Nat.le_of_ble_eq_true rfl) (Nat.le_of_ble_eq_true rfl) (Nat.le_of_ble_eq_true rfl) dX8_line_64 rfl ?_
            refine K.iload_n (q := 68) dX8_line_67 rfl rfl ?_
            refine K.iconst (q := 69) (v := (-1)) dX8_line_68 rfl (by decide) ?_
            refine K.icmp_eq (q := 72) (tgt := 77) dX8_line_69 rfl (by decide) (fun c_69_19 => ?_) (fun c_69_19 => ?_)
            · rw [if_pos c_69_19] at h
              refine K.iinc (q := 80) (v := (nI (i7 + 1))) dX8_line_77 rfl rfl (nI_1 _) (by decide) rfl ?_
              refine K.goto (tgt := 7) dX8_line_80 (by decide) ?_
              refine K.drop 2 ?_
              exact ih (i7 + 1) X18 _ (by omega) h hx
            · rw [if_neg c_69_19] at h
              refine K.aload_n (q := 73) dX8_line_72 rfl rfl ?_
              refine K.iload_n (q := 74) dX8_line_73 rfl rfl ?_
              obtain ⟨X20, h9_20, h⟩ := bnd1_inv h
              refine K.callVv0 (q := 77) mkX8_writesNumber mw_X8_178 (s_X8_writesNumber _ _ h9_20) rfl (by decide) rfl (lt141 (by decide)) rx131 (Nat.le_of_ble_eq_true rfl) (Nat.le_of_ble_eq_true rfl) (Nat.le_of_ble_eq_true rfl) dX8_line_74 rfl ?_
              refine K.iinc (q := 80) (v := (nI (i7 + 1))) dX8_line_77 rfl rfl (nI_1 _) (by decide) rfl ?_
              refine K.goto (tgt := 7) dX8_line_80 (by decide) ?_
              refine K.drop 2 ?_
              exact ih (i7 + 1) X20 _ (by omega) h hx
          · rw [if_pos c_54_17] at h
            refine K.bipush (q := 59) (v := 46) dX8_line_57 rfl (by decide) ?_
            refine K.goto (tgt := 64) dX8_line_59 (by decide) ?_
            obtain ⟨X21, h9_21, h⟩ := bnd1_inv h
            refine K.callVv0 (q := 67) mkX8_writes mw_X8_175 (s_X8_writes _ _ h9_21) rfl (by decide) rfl (lt141 (by decide)) rx131 (Nat.le_of_ble_eq_true rfl) (Nat.le_of_ble_eq_true rfl) (Nat.le_of_ble_eq_true rfl) dX8_line_64 rfl ?_
            refine K.iload_n (q := 68) dX8_line_67 rfl rfl ?_
            refine K.iconst (q := 69) (v := (-1)) dX8_line_68 rfl (by decide) ?_
            refine K.icmp_eq (q := 72) (tgt := 77) dX8_line_69 rfl (by decide) (fun c_69_22 => ?_) (fun c_69_22 => ?_)
            · rw [if_pos c_69_22] at h
              refine K.iinc (q := 80) (v := (nI (i7 + 1))) dX8_line_77 rfl rfl (nI_1 _) (by decide) rfl ?_
              refine K.goto (tgt := 7) dX8_line_80 (by decide) ?_
              refine K.drop 2 ?_
              exact ih (i7 + 1) X21 _ (by omega) h hx
            · rw [if_neg c_69_22] at h
              refine K.aload_n (q := 73) dX8_line_72 rfl rfl ?_
              refine K.iload_n (q := 74) dX8_line_73 rfl rfl ?_
              obtain ⟨X23, h9_23, h⟩ := bnd1_inv h
              refine K.callVv0 (q := 77) mkX8_writesNumber mw_X8_178 (s_X8_writesNumber _ _ h9_23) rfl (by decide) rfl (lt141 (by decide)) rx131 (Nat.le_of_ble_eq_true rfl) (Nat.le_of_ble_eq_true rfl) (Nat.le_of_ble_eq_true rfl) dX8_line_74 rfl ?_
              refine K.iinc (q := 80) (v := (nI (i7 + 1))) dX8_line_77 rfl rfl (nI_1 _) (by decide) rfl ?_
              refine K.goto (tgt := 7) dX8_line_80 (by decide) ?_
              refine K.drop 2 ?_
              exact ih (i7 + 1) X23 _ (by omega) h hx
  obtain ⟨XX7_24, h9_24, h⟩ := bnd1_inv h
  refine L7 64 0 (uS X 18 0) _ (by omega) h9_24 ?_
  refine K.aload_n (q := 84) dX8_line_83 rfl rfl ?_
  refine K.aload_n (q := 85) dX8_line_84 rfl rfl ?_
  refine K.getf (q := 88) (v := .int (XX7_24.2.1 18)) fo_X8_172.r rx131 (lt141 (by decide)) rfl dX8_line_85 rfl ?_
  obtain ⟨v25, X25, h9_25, h⟩ := bnd2_inv h
  refine K.callV0 (q := 91) mkX8_done mw_X8_105 (s_X8_done _ _ h9_25) rfl (by decide) rfl (lt141 (by decide)) rx131 (Nat.le_of_ble_eq_true rfl) (Nat.le_of_ble_eq_true rfl) (Nat.le_of_ble_eq_true rfl) dX8_line_88 rfl ?_
  obtain ⟨e_vo, e_Xo⟩ := ret2_inv h
  exact C.iret rfl rfl (congrArg (fun z => Sum.inl (some (Value.int z))) e_vo.symm) (congrArg mkH e_Xo) (Nat.le_of_ble_eq_true rfl) (Nat.le_of_ble_eq_true rfl) dX8_line_91

def lp_X8_map_7 : Nat → Nat → GS → Option (GS)
  | 0, _, XX7 => some XX7
  | j7 + 1, i7, XX7 => (bnd1 (m_X8_startOf XX7 (nI i7)) fun (v3 : Int32) => (bnd1 (m_X8_loanAt XX7 v3) fun (v4 : Int32) => (if v4 = (-1) then (bnd1 (m_X8_writes XX7 46) fun (X7 : GS) => (lp_X8_map_7 j7 (i7 + 1) X7)) else (bnd1 (m_X8_writes XX7 (97 + v4)) fun (X6 : GS) => (lp_X8_map_7 j7 (i7 + 1) X6)))))

def m_X8_map (X : GS) : Option (Int32 × GS) := (bnd1 (lp_X8_map_7 64 0 (uS X 18 0)) fun (XX7_8 : GS) => (bnd2 (m_X8_done XX7_8 (XX7_8.2.1 18)) fun (v9 : Int32) (X9 : GS) => (some (v9, X9))))
set_option maxRecDepth 20000 in
set_option maxHeartbeats 1000000 in
theorem s_X8_map (X : GS) {vo : Int32} {Xo : GS} (h : m_X8_map X = some (vo, Xo)) : Ct 2 0 0 yX8_map (.code yX8_map cX8_map 3 (some (.int))) [.ref 131] (mkH X) (.inl (some (.int vo))) (mkH Xo) := by
  refine Ct.of (LL := [some (.ref 131), none, none]) mkX8_map.1 owX8_map rfl (Nat.le_of_ble_eq_true rfl) rfl (fun Wk C => ?_)
  have K := C.core
  rw [m_X8_map] at h
  refine K.aload_n (q := 1) dX8_map_0 rfl rfl ?_
  refine K.iconst (q := 2) (v := 0) dX8_map_1 rfl (by decide) ?_
  refine K.putf (q := 5) fo_X8_172 rx131 (lt141 (by decide)) (Nat.le_of_ble_eq_true rfl) (fun _ => rfl) (fun _ => rfl) pxs18 dX8_map_2 rfl ?_
  refine K.iconst (q := 6) (v := 0) dX8_map_5 rfl (by decide) ?_
  refine K.istore_n (q := 7) (i := 1) dX8_map_6 rfl rfl (by decide) rfl ?_
  have L7 : ∀ (j7 i7 : Nat) (XX7 : GS) (XX7r : GS), i7 + j7 = 64 → lp_X8_map_7 j7 i7 XX7 = some XX7r → (Wk 0 0 47 [some (.ref 131), none, none] [] (mkH XX7r)) → Wk 0 0 7 [some (.ref 131), some (.int (nI i7)), none] [] (mkH XX7) := by
    intro j7
    induction j7 with
    | zero =>
      intro i7 XX7 XX7r hij h hx
      rw [lp_X8_map_7] at h
      refine K.iload_n (q := 8) dX8_map_7 rfl rfl ?_
      refine K.bipush (q := 10) (v := 64) dX8_map_8 rfl (by decide) ?_
      refine K.icmp_ge (q := 13) (tgt := 47) dX8_map_10 rfl (by decide) (fun _ => ?_) (fun z => absurd z (not_not_intro (nI_le (a := 64) (b := i7) (by omega) (by omega))))
      refine K.drop 1 ?_
      obtain q0 := ret1_inv h
      subst q0
      exact hx
    | succ j7 ih =>
      intro i7 XX7 XX7r hij h hx
      rw [lp_X8_map_7] at h
      refine K.iload_n (q := 8) dX8_map_7 rfl rfl ?_
      refine K.bipush (q := 10) (v := 64) dX8_map_8 rfl (by decide) ?_
      refine K.icmp_ge (q := 13) (tgt := 47) dX8_map_10 rfl (by decide) (fun z => absurd z (nI_ge (a := i7) (b := 64) (by omega) (by omega))) (fun _ => ?_)
      refine K.aload_n (q := 14) dX8_map_13 rfl rfl ?_
      refine K.aload_n (q := 15) dX8_map_14 rfl rfl ?_
      refine K.iload_n (q := 16) dX8_map_15 rfl rfl ?_
      obtain ⟨v3, h9_3, h⟩ := bnd1_inv h
      refine K.callV0 (q := 19) mkX8_startOf mw_X8_163 (s_X8_startOf _ _ h9_3) rfl (by decide) rfl (lt141 (by decide)) rx131 (Nat.le_of_ble_eq_true rfl) (Nat.le_of_ble_eq_true rfl) (Nat.le_of_ble_eq_true rfl) dX8_map_16 rfl ?_
      obtain ⟨v4, h9_4, h⟩ := bnd1_inv h
      refine K.callV0 (q := 22) mkX8_loanAt mw_X8_60 (s_X8_loanAt _ _ h9_4) rfl (by decide) rfl (lt141 (by decide)) rx131 (Nat.le_of_ble_eq_true rfl) (Nat.le_of_ble_eq_true rfl) (Nat.le_of_ble_eq_true rfl) dX8_map_19 rfl ?_
      refine K.istore_n (q := 23) (i := 2) dX8_map_22 rfl rfl (by decide) rfl ?_
      refine K.aload_n (q := 24) dX8_map_23 rfl rfl ?_
      refine K.iload_n (q := 25) dX8_map_24 rfl rfl ?_
      refine K.iconst (q := 26) (v := (-1)) dX8_map_25 rfl (by decide) ?_
      refine K.icmp_ne (q := 29) (tgt := 34) dX8_map_26 rfl (by decide) (fun c_26_5 => ?_) (fun c_26_5 => ?_)
      · rw [if_neg c_26_5] at h
        refine K.bipush (q := 36) (v := 97) dX8_map_34 rfl (by decide) ?_
        refine K.iload_n (q := 37) dX8_map_36 rfl rfl ?_
        refine K.iadd (q := 38) dX8_map_37 rfl ?_
        obtain ⟨X6, h9_6, h⟩ := bnd1_inv h
        refine K.callVv0 (q := 41) mkX8_writes mw_X8_175 (s_X8_writes _ _ h9_6) rfl (by decide) rfl (lt141 (by decide)) rx131 (Nat.le_of_ble_eq_true rfl) (Nat.le_of_ble_eq_true rfl) (Nat.le_of_ble_eq_true rfl) dX8_map_38 rfl ?_
        refine K.iinc (q := 44) (v := (nI (i7 + 1))) dX8_map_41 rfl rfl (nI_1 _) (by decide) rfl ?_
        refine K.goto (tgt := 7) dX8_map_44 (by decide) ?_
        refine K.drop 2 ?_
        exact ih (i7 + 1) X6 _ (by omega) h hx
      · rw [if_pos c_26_5] at h
        refine K.bipush (q := 31) (v := 46) dX8_map_29 rfl (by decide) ?_
        refine K.goto (tgt := 38) dX8_map_31 (by decide) ?_
        obtain ⟨X7, h9_7, h⟩ := bnd1_inv h
        refine K.callVv0 (q := 41) mkX8_writes mw_X8_175 (s_X8_writes _ _ h9_7) rfl (by decide) rfl (lt141 (by decide)) rx131 (Nat.le_of_ble_eq_true rfl) (Nat.le_of_ble_eq_true rfl) (Nat.le_of_ble_eq_true rfl) dX8_map_38 rfl ?_
        refine K.iinc (q := 44) (v := (nI (i7 + 1))) dX8_map_41 rfl rfl (nI_1 _) (by decide) rfl ?_
        refine K.goto (tgt := 7) dX8_map_44 (by decide) ?_
        refine K.drop 2 ?_
        exact ih (i7 + 1) X7 _ (by omega) h hx
  obtain ⟨XX7_8, h9_8, h⟩ := bnd1_inv h
  refine L7 64 0 (uS X 18 0) _ (by omega) h9_8 ?_
  refine K.aload_n (q := 48) dX8_map_47 rfl rfl ?_
  refine K.aload_n (q := 49) dX8_map_48 rfl rfl ?_
  refine K.getf (q := 52) (v := .int (XX7_8.2.1 18)) fo_X8_172.r rx131 (lt141 (by decide)) rfl dX8_map_49 rfl ?_
  obtain ⟨v9, X9, h9_9, h⟩ := bnd2_inv h
  refine K.callV0 (q := 55) mkX8_done mw_X8_105 (s_X8_done _ _ h9_9) rfl (by decide) rfl (lt141 (by decide)) rx131 (Nat.le_of_ble_eq_true rfl) (Nat.le_of_ble_eq_true rfl) (Nat.le_of_ble_eq_true rfl) dX8_map_52 rfl ?_
  obtain ⟨e_vo, e_Xo⟩ := ret2_inv h
  exact C.iret rfl rfl (congrArg (fun z => Sum.inl (some (Value.int z))) e_vo.symm) (congrArg mkH e_Xo) (Nat.le_of_ble_eq_true rfl) (Nat.le_of_ble_eq_true rfl) dX8_map_55

def m_X8_character (X : GS) (index : Int32) : Option (Int32 × GS) := (bnd1 (m_X8_in index 0 ((X.2.1 18) - 1)) fun (v1 : Int32) => (if v1 = 0 then (some (0, (uS X 19 1))) else (if inR index 400 then (some (((X.2.2.1 10) (index.toNatClampNeg)), (uS X 19 0))) else none)))
set_option maxRecDepth 20000 in
set_option maxHeartbeats 1000000 in
theorem s_X8_character (X : GS) (index : Int32) {vo : Int32} {Xo : GS} (hch : ∀ i : Nat, narrow .char (.int (X.2.2.1 10 i)) = .int (X.2.2.1 10 i)) (h : m_X8_character X index = some (vo, Xo)) : Ct 2 0 0 yX8_character (.code yX8_character cX8_character 2 (some (.char))) [.ref 131, .int index] (mkH X) (.inl (some (.int vo))) (mkH Xo) := by
  refine Ct.of (LL := [some (.ref 131), some (.int index)]) mkX8_character.1 owX8_character rfl (Nat.le_of_ble_eq_true rfl) rfl (fun Wk C => ?_)
  have K := C.core
  rw [m_X8_character] at h
  refine K.aload_n (q := 1) dX8_character_0 rfl rfl ?_
  refine K.iload_n (q := 2) dX8_character_1 rfl rfl ?_
  refine K.iconst (q := 3) (v := 0) dX8_character_2 rfl (by decide) ?_
  refine K.aload_n (q := 4) dX8_character_3 rfl rfl ?_
  refine K.getf (q := 7) (v := .int (X.2.1 18)) fo_X8_172.r rx131 (lt141 (by decide)) rfl dX8_character_4 rfl ?_
  refine K.iconst (q := 8) (v := 1) dX8_character_7 rfl (by decide) ?_
  refine K.isub (q := 9) dX8_character_8 rfl ?_
  obtain ⟨v1, h9_1, h⟩ := bnd1_inv h
  refine K.callS0 (q := 12) mkX8_in mw_X8_56 (s_X8_in _ _ _ _ h9_1) rfl (by decide) rfl (Nat.le_of_ble_eq_true rfl) (Nat.le_of_ble_eq_true rfl) (Nat.le_of_ble_eq_true rfl) dX8_character_9 rfl ?_
  refine K.if_eq (q := 15) (tgt := 19) dX8_character_12 rfl (by decide) (fun c_12_2 => ?_) (fun c_12_2 => ?_)
  · rw [if_pos c_12_2] at h
    refine K.iconst (q := 20) (v := 1) dX8_character_19 rfl (by decide) ?_
    refine K.putf (q := 23) fo_X8_36 rx131 (lt141 (by decide)) (Nat.le_of_ble_eq_true rfl) (fun _ => rfl) (fun _ => rfl) pxs19 dX8_character_20 rfl ?_
    refine K.aload_n (q := 24) dX8_character_23 rfl rfl ?_
    refine K.getf (q := 27) (v := .int 1) fo_X8_36.r rx131 (lt141 (by decide)) rfl dX8_character_24 rfl ?_
    refine K.if_ne (q := 30) (tgt := 39) dX8_character_27 rfl (by decide) (fun _ => ?_) (fun z => absurd z (by decide))
    refine K.iconst (q := 40) (v := 0) dX8_character_39 rfl (by decide) ?_
    obtain ⟨e_vo, e_Xo⟩ := ret2_inv h
    exact C.iret rfl (by first | rfl | exact hch _) (congrArg (fun z => Sum.inl (some (Value.int z))) e_vo.symm) (congrArg mkH e_Xo) (Nat.le_of_ble_eq_true rfl) (Nat.le_of_ble_eq_true rfl) dX8_character_40
  · rw [if_neg c_12_2] at h
    refine K.iconst (q := 16) (v := 0) dX8_character_15 rfl (by decide) ?_
    refine K.goto (tgt := 20) dX8_character_16 (by decide) ?_
    refine K.putf (q := 23) fo_X8_36 rx131 (lt141 (by decide)) (Nat.le_of_ble_eq_true rfl) (fun _ => rfl) (fun _ => rfl) pxs19 dX8_character_20 rfl ?_
    refine K.aload_n (q := 24) dX8_character_23 rfl rfl ?_
    refine K.getf (q := 27) (v := .int 0) fo_X8_36.r rx131 (lt141 (by decide)) rfl dX8_character_24 rfl ?_
    refine K.if_ne (q := 30) (tgt := 39) dX8_character_27 rfl (by decide) (fun z => absurd z (by decide)) (fun _ => ?_)
    refine K.aload_n (q := 31) dX8_character_30 rfl rfl ?_
    refine K.getf (q := 34) (v := .ref 137) fo_X8_30.r rx131 (lt141 (by decide)) rfl dX8_character_31 rfl ?_
    refine K.iload_n (q := 35) dX8_character_34 rfl rfl ?_
    obtain ⟨k_5, h⟩ := chk_inv h
    refine K.cal (q := 36) (f := (X.2.2.1 10)) (m := (index.toNatClampNeg)) rx137 (lt141 (by decide)) (cl_nI k_5.1) k_5.2 (by decide) dX8_character_35 rfl ?_
    refine K.goto (tgt := 40) dX8_character_36 (by decide) ?_
    obtain ⟨e_vo, e_Xo⟩ := ret2_inv h
    exact C.iret rfl (by first | rfl | exact hch _) (congrArg (fun z => Sum.inl (some (Value.int z))) e_vo.symm) (congrArg mkH e_Xo) (Nat.le_of_ble_eq_true rfl) (Nat.le_of_ble_eq_true rfl) dX8_character_40

def m_X8_append (X : GS) (c : Int32) : Option (Int32 × GS) := (if (X.2.1 13) = 60 then (bnd2 (m_X8_fails X 1) fun (v4 : Int32) (X4 : GS) => (some (v4, X4))) else (if inR (X.2.1 13) 60 then (bnd2 (m_X8_done (uS (uA X 9 (up (X.2.2.1 9) ((X.2.1 13).toNatClampNeg) (vp_nar .char c))) 13 ((X.2.1 13) + 1)) ((X.2.1 13) + 1)) fun (v3 : Int32) (X3 : GS) => (some (v3, X3))) else none))
set_option maxRecDepth 20000 in
set_option maxHeartbeats 1000000 in
theorem s_X8_append (X : GS) (c : Int32) {vo : Int32} {Xo : GS} (h : m_X8_append X c = some (vo, Xo)) : Ct 2 0 0 yX8_append (.code yX8_append cX8_append 2 (some (.int))) [.ref 131, .int c] (mkH X) (.inl (some (.int vo))) (mkH Xo) := by
  refine Ct.of (LL := [some (.ref 131), some (.int c)]) mkX8_append.1 owX8_append rfl (Nat.le_of_ble_eq_true rfl) rfl (fun Wk C => ?_)
  have K := C.core
  rw [m_X8_append] at h
  refine K.aload_n (q := 1) dX8_append_0 rfl rfl ?_
  refine K.getf (q := 4) (v := .int (X.2.1 13)) fo_X8_181.r rx131 (lt141 (by decide)) rfl dX8_append_1 rfl ?_
  refine K.bipush (q := 6) (v := 60) dX8_append_4 rfl (by decide) ?_
  refine K.icmp_ne (q := 9) (tgt := 15) dX8_append_6 rfl (by decide) (fun c_6_1 => ?_) (fun c_6_1 => ?_)
  · rw [if_neg c_6_1] at h
    refine K.aload_n (q := 16) dX8_append_15 rfl rfl ?_
    refine K.getf (q := 19) (v := .ref 136) fo_X8_22.r rx131 (lt141 (by decide)) rfl dX8_append_16 rfl ?_
    refine K.aload_n (q := 20) dX8_append_19 rfl rfl ?_
    refine K.getf (q := 23) (v := .int (X.2.1 13)) fo_X8_181.r rx131 (lt141 (by decide)) rfl dX8_append_20 rfl ?_
    refine K.iload_n (q := 24) dX8_append_23 rfl rfl ?_
    obtain ⟨k_2, h⟩ := chk_inv h
    refine K.cas (q := 25) (f := (X.2.2.1 9)) (m := ((X.2.1 13).toNatClampNeg)) rx136 (lt141 (by decide)) rfl (cl_nI k_2.1) k_2.2 (by decide) pxa9 dX8_append_24 rfl ?_
    refine K.aload_n (q := 26) dX8_append_25 rfl rfl ?_
    refine K.dup (q := 27) dX8_append_26 rfl rfl ?_
    refine K.getf (q := 30) (v := .int (X.2.1 13)) fo_X8_181.r rx131 (lt141 (by decide)) rfl dX8_append_27 rfl ?_
    refine K.iconst (q := 31) (v := 1) dX8_append_30 rfl (by decide) ?_
    refine K.iadd (q := 32) dX8_append_31 rfl ?_
    refine K.putf (q := 35) fo_X8_181 rx131 (lt141 (by decide)) (Nat.le_of_ble_eq_true rfl) (fun _ => rfl) (fun _ => rfl) pxs13 dX8_append_32 rfl ?_
    refine K.aload_n (q := 36) dX8_append_35 rfl rfl ?_
    refine K.aload_n (q := 37) dX8_append_36 rfl rfl ?_
    refine K.getf (q := 40) (v := .int ((X.2.1 13) + 1)) fo_X8_181.r rx131 (lt141 (by decide)) rfl dX8_append_37 rfl ?_
    obtain ⟨v3, X3, h9_3, h⟩ := bnd2_inv h
    refine K.callV0 (q := 43) mkX8_done mw_X8_105 (s_X8_done _ _ h9_3) rfl (by decide) rfl (lt141 (by decide)) rx131 (Nat.le_of_ble_eq_true rfl) (Nat.le_of_ble_eq_true rfl) (Nat.le_of_ble_eq_true rfl) dX8_append_40 rfl ?_
    obtain ⟨e_vo, e_Xo⟩ := ret2_inv h
    exact C.iret rfl rfl (congrArg (fun z => Sum.inl (some (Value.int z))) e_vo.symm) (congrArg mkH e_Xo) (Nat.le_of_ble_eq_true rfl) (Nat.le_of_ble_eq_true rfl) dX8_append_43
  · rw [if_pos c_6_1] at h
    refine K.aload_n (q := 10) dX8_append_9 rfl rfl ?_
    refine K.iconst (q := 11) (v := 1) dX8_append_10 rfl (by decide) ?_
    obtain ⟨v4, X4, h9_4, h⟩ := bnd2_inv h
    refine K.callV0 (q := 14) mkX8_fails mw_X8_98 (s_X8_fails _ _ h9_4) rfl (by decide) rfl (lt141 (by decide)) rx131 (Nat.le_of_ble_eq_true rfl) (Nat.le_of_ble_eq_true rfl) (Nat.le_of_ble_eq_true rfl) dX8_append_11 rfl ?_
    obtain ⟨e_vo, e_Xo⟩ := ret2_inv h
    exact C.iret rfl rfl (congrArg (fun z => Sum.inl (some (Value.int z))) e_vo.symm) (congrArg mkH e_Xo) (Nat.le_of_ble_eq_true rfl) (Nat.le_of_ble_eq_true rfl) dX8_append_14
