def m_X8_thrown (X : GS) : Option (Int32) := (some (X.2.1 19))
set_option maxRecDepth 20000 in
set_option maxHeartbeats 1000000 in
theorem s_X8_thrown (X : GS) {vo : Int32} (h : m_X8_thrown X = some vo) : Ct 1 0 0 yX8_thrown (.code yX8_thrown cX8_thrown 1 (some (.int))) [.ref 131] (mkH X) (.inl (some (.int vo))) (mkH X) := by
  refine Ct.of (LL := [some (.ref 131)]) mkX8_thrown.1 owX8_thrown rfl (Nat.le_of_ble_eq_true rfl) rfl (fun Wk C => ?_)
  have K := C.core
  rw [m_X8_thrown] at h
  refine K.aload_n (q := 1) dX8_thrown_0 rfl rfl ?_
  refine K.getf (q := 4) (v := .int (X.2.1 19)) fo_X8_36.r rx131 (lt141 (by decide)) rfl dX8_thrown_1 rfl ?_
  obtain e_vo := ret1_inv h
  exact C.iret rfl rfl (congrArg (fun z => Sum.inl (some (Value.int z))) e_vo.symm) rfl (Nat.le_of_ble_eq_true rfl) (Nat.le_of_ble_eq_true rfl) dX8_thrown_4

def m_X8_in (v : Int32) (low : Int32) (high : Int32) : Option (Int32) := (if v < low then (some 0) else (if high < v then (some 0) else (some 1)))
set_option maxRecDepth 20000 in
set_option maxHeartbeats 1000000 in
theorem s_X8_in (X : GS) (v : Int32) (low : Int32) (high : Int32) {vo : Int32} (h : m_X8_in v low high = some vo) : Ct 1 0 0 yX8_in (.code yX8_in cX8_in 3 (some (.boolean))) [.int v, .int low, .int high] (mkH X) (.inl (some (.int vo))) (mkH X) := by
  refine Ct.of (LL := [some (.int v), some (.int low), some (.int high)]) mkX8_in.1 owX8_in rfl (Nat.le_of_ble_eq_true rfl) rfl (fun Wk C => ?_)
  have K := C.core
  rw [m_X8_in] at h
  refine K.iload_n (q := 1) dX8_in_0 rfl rfl ?_
  refine K.iload_n (q := 2) dX8_in_1 rfl rfl ?_
  refine K.icmp_lt (q := 5) (tgt := 14) dX8_in_2 rfl (by decide) (fun c_2_1 => ?_) (fun c_2_1 => ?_)
  · rw [if_pos c_2_1] at h
    refine K.iconst (q := 15) (v := 0) dX8_in_14 rfl (by decide) ?_
    obtain e_vo := ret1_inv h
    exact C.iret rfl rfl (congrArg (fun z => Sum.inl (some (Value.int z))) e_vo.symm) rfl (Nat.le_of_ble_eq_true rfl) (Nat.le_of_ble_eq_true rfl) dX8_in_15
  · rw [if_neg c_2_1] at h
    refine K.iload_n (q := 6) dX8_in_5 rfl rfl ?_
    refine K.iload_n (q := 7) dX8_in_6 rfl rfl ?_
    refine K.icmp_gt (q := 10) (tgt := 14) dX8_in_7 rfl (by decide) (fun c_7_2 => ?_) (fun c_7_2 => ?_)
    · rw [if_pos c_7_2] at h
      refine K.iconst (q := 15) (v := 0) dX8_in_14 rfl (by decide) ?_
      obtain e_vo := ret1_inv h
      exact C.iret rfl rfl (congrArg (fun z => Sum.inl (some (Value.int z))) e_vo.symm) rfl (Nat.le_of_ble_eq_true rfl) (Nat.le_of_ble_eq_true rfl) dX8_in_15
    · rw [if_neg c_7_2] at h
      refine K.iconst (q := 11) (v := 1) dX8_in_10 rfl (by decide) ?_
      refine K.goto (tgt := 15) dX8_in_11 (by decide) ?_
      obtain e_vo := ret1_inv h
      exact C.iret rfl rfl (congrArg (fun z => Sum.inl (some (Value.int z))) e_vo.symm) rfl (Nat.le_of_ble_eq_true rfl) (Nat.le_of_ble_eq_true rfl) dX8_in_15

theorem bool_in {v low high r : Int32} (h : m_X8_in v low high = some r) : narrow .boolean (.int r) = .int r := by
  unfold m_X8_in at h
  split at h
  · cases h; rfl
  · split at h
    · cases h; rfl
    · cases h; rfl

def m_X8_done (X : GS) (v : Int32) : Option (Int32 × GS) := (some (v, (uS X 19 0)))
set_option maxRecDepth 20000 in
set_option maxHeartbeats 1000000 in
theorem s_X8_done (X : GS) (v : Int32) {vo : Int32} {Xo : GS} (h : m_X8_done X v = some (vo, Xo)) : Ct 1 0 0 yX8_done (.code yX8_done cX8_done 2 (some (.int))) [.ref 131, .int v] (mkH X) (.inl (some (.int vo))) (mkH Xo) := by
  refine Ct.of (LL := [some (.ref 131), some (.int v)]) mkX8_done.1 owX8_done rfl (Nat.le_of_ble_eq_true rfl) rfl (fun Wk C => ?_)
  have K := C.core
  rw [m_X8_done] at h
  refine K.aload_n (q := 1) dX8_done_0 rfl rfl ?_
  refine K.iconst (q := 2) (v := 0) dX8_done_1 rfl (by decide) ?_
  refine K.putf (q := 5) fo_X8_36 rx131 (lt141 (by decide)) (Nat.le_of_ble_eq_true rfl) (fun _ => rfl) (fun _ => rfl) pxs19 dX8_done_2 rfl ?_
  refine K.iload_n (q := 6) dX8_done_5 rfl rfl ?_
  obtain ⟨e_vo, e_Xo⟩ := ret2_inv h
  exact C.iret rfl rfl (congrArg (fun z => Sum.inl (some (Value.int z))) e_vo.symm) (congrArg mkH e_Xo) (Nat.le_of_ble_eq_true rfl) (Nat.le_of_ble_eq_true rfl) dX8_done_6

def m_X8_fails (X : GS) (n : Int32) : Option (Int32 × GS) := (some (0, (uS (uS X 19 n) 17 0)))
set_option maxRecDepth 20000 in
set_option maxHeartbeats 1000000 in
theorem s_X8_fails (X : GS) (n : Int32) {vo : Int32} {Xo : GS} (h : m_X8_fails X n = some (vo, Xo)) : Ct 1 0 0 yX8_fails (.code yX8_fails cX8_fails 2 (some (.int))) [.ref 131, .int n] (mkH X) (.inl (some (.int vo))) (mkH Xo) := by
  refine Ct.of (LL := [some (.ref 131), some (.int n)]) mkX8_fails.1 owX8_fails rfl (Nat.le_of_ble_eq_true rfl) rfl (fun Wk C => ?_)
  have K := C.core
  rw [m_X8_fails] at h
  refine K.aload_n (q := 1) dX8_fails_0 rfl rfl ?_
  refine K.iload_n (q := 2) dX8_fails_1 rfl rfl ?_
  refine K.putf (q := 5) fo_X8_36 rx131 (lt141 (by decide)) (Nat.le_of_ble_eq_true rfl) (fun _ => rfl) (fun _ => rfl) pxs19 dX8_fails_2 rfl ?_
  refine K.aload_n (q := 6) dX8_fails_5 rfl rfl ?_
  refine K.iconst (q := 7) (v := 0) dX8_fails_6 rfl (by decide) ?_
  refine K.putf (q := 10) fo_X8_39 rx131 (lt141 (by decide)) (Nat.le_of_ble_eq_true rfl) (fun _ => rfl) (fun _ => rfl) pxs17 dX8_fails_7 rfl ?_
  refine K.iconst (q := 11) (v := 0) dX8_fails_10 rfl (by decide) ?_
  obtain ⟨e_vo, e_Xo⟩ := ret2_inv h
  exact C.iret rfl rfl (congrArg (fun z => Sum.inl (some (Value.int z))) e_vo.symm) (congrArg mkH e_Xo) (Nat.le_of_ble_eq_true rfl) (Nat.le_of_ble_eq_true rfl) dX8_fails_11

def m_X8_refused (X : GS) (reason : Int32) (detail : Int32) (n : Int32) : Option (Int32 × GS) := (some (0, (uS (uS (uS (uS X 15 reason) 16 detail) 19 n) 17 1)))
set_option maxRecDepth 20000 in
set_option maxHeartbeats 1000000 in
theorem s_X8_refused (X : GS) (reason : Int32) (detail : Int32) (n : Int32) {vo : Int32} {Xo : GS} (h : m_X8_refused X reason detail n = some (vo, Xo)) : Ct 1 0 0 yX8_refused (.code yX8_refused cX8_refused 4 (some (.int))) [.ref 131, .int reason, .int detail, .int n] (mkH X) (.inl (some (.int vo))) (mkH Xo) := by
  refine Ct.of (LL := [some (.ref 131), some (.int reason), some (.int detail), some (.int n)]) mkX8_refused.1 owX8_refused rfl (Nat.le_of_ble_eq_true rfl) rfl (fun Wk C => ?_)
  have K := C.core
  rw [m_X8_refused] at h
  refine K.aload_n (q := 1) dX8_refused_0 rfl rfl ?_
  refine K.iload_n (q := 2) dX8_refused_1 rfl rfl ?_
  refine K.putf (q := 5) fo_X8_43 rx131 (lt141 (by decide)) (Nat.le_of_ble_eq_true rfl) (fun _ => rfl) (fun _ => rfl) pxs15 dX8_refused_2 rfl ?_
  refine K.aload_n (q := 6) dX8_refused_5 rfl rfl ?_
  refine K.iload_n (q := 7) dX8_refused_6 rfl rfl ?_
  refine K.putf (q := 10) fo_X8_46 rx131 (lt141 (by decide)) (Nat.le_of_ble_eq_true rfl) (fun _ => rfl) (fun _ => rfl) pxs16 dX8_refused_7 rfl ?_
  refine K.aload_n (q := 11) dX8_refused_10 rfl rfl ?_
  refine K.iload_n (q := 12) dX8_refused_11 rfl rfl ?_
  refine K.putf (q := 15) fo_X8_36 rx131 (lt141 (by decide)) (Nat.le_of_ble_eq_true rfl) (fun _ => rfl) (fun _ => rfl) pxs19 dX8_refused_12 rfl ?_
  refine K.aload_n (q := 16) dX8_refused_15 rfl rfl ?_
  refine K.iconst (q := 17) (v := 1) dX8_refused_16 rfl (by decide) ?_
  refine K.putf (q := 20) fo_X8_39 rx131 (lt141 (by decide)) (Nat.le_of_ble_eq_true rfl) (fun _ => rfl) (fun _ => rfl) pxs17 dX8_refused_17 rfl ?_
  refine K.iconst (q := 21) (v := 0) dX8_refused_20 rfl (by decide) ?_
  obtain ⟨e_vo, e_Xo⟩ := ret2_inv h
  exact C.iret rfl rfl (congrArg (fun z => Sum.inl (some (Value.int z))) e_vo.symm) (congrArg mkH e_Xo) (Nat.le_of_ble_eq_true rfl) (Nat.le_of_ble_eq_true rfl) dX8_refused_21

def lp_X8_copy_132_133_3 (att : Int32) (thn : Int32) : Nat → Nat → GS → Option (GS)
  | 0, _, XX3 => some XX3
  | j3 + 1, i3, XX3 => (if inR (att + (nI i3)) 129 then (if inR (thn + (nI i3)) 129 then (lp_X8_copy_132_133_3 att thn j3 (i3 + 1) (uA XX3 6 (up (XX3.2.2.1 6) ((thn + (nI i3)).toNatClampNeg) ((XX3.2.2.1 5) ((att + (nI i3)).toNatClampNeg))))) else none) else none)

def m_X8_copy_132_133 (X : GS) (att : Int32) (thn : Int32) : Option (GS) := (bnd1 (lp_X8_copy_132_133_3 att thn 129 0 X) fun (XX3_5 : GS) => (some XX3_5))
set_option maxRecDepth 20000 in
set_option maxHeartbeats 1000000 in
theorem s_X8_copy_132_133 (X : GS) (att : Int32) (thn : Int32) {Xo : GS} (h : m_X8_copy_132_133 X att thn = some Xo) : Ct 1 0 0 yX8_copy (.code yX8_copy cX8_copy 5 none) [.ref 132, .int att, .ref 133, .int thn] (mkH X) (.inl none) (mkH Xo) := by
  refine Ct.of (LL := [some (.ref 132), some (.int att), some (.ref 133), some (.int thn), none]) mkX8_copy.1 owX8_copy rfl (Nat.le_of_ble_eq_true rfl) rfl (fun Wk C => ?_)
  have K := C.core
  rw [m_X8_copy_132_133] at h
  refine K.iconst (q := 1) (v := 0) dX8_copy_0 rfl (by decide) ?_
  refine K.istore (q := 3) dX8_copy_1 rfl (by decide) rfl ?_
  have L3 : ∀ (j3 i3 : Nat) (XX3 : GS) (XX3r : GS), i3 + j3 = 129 → lp_X8_copy_132_133_3 att thn j3 i3 XX3 = some XX3r → (Wk 0 0 29 [some (.ref 132), some (.int att), some (.ref 133), some (.int thn), none] [] (mkH XX3r)) → Wk 0 0 3 [some (.ref 132), some (.int att), some (.ref 133), some (.int thn), some (.int (nI i3))] [] (mkH XX3) := by
    intro j3
    induction j3 with
    | zero =>
      intro i3 XX3 XX3r hij h hx
      rw [lp_X8_copy_132_133_3] at h
      refine K.iload (q := 5) dX8_copy_3 rfl rfl ?_
      refine K.sipush (q := 8) (v := 129) dX8_copy_5 rfl (by decide) ?_
      refine K.icmp_ge (q := 11) (tgt := 29) dX8_copy_8 rfl (by decide) (fun _ => ?_) (fun z => absurd z (not_not_intro (nI_le (a := 129) (b := i3) (by omega) (by omega))))
      refine K.drop 4 ?_
      obtain q0 := ret1_inv h
      subst q0
      exact hx
    | succ j3 ih =>
      intro i3 XX3 XX3r hij h hx
      rw [lp_X8_copy_132_133_3] at h
      refine K.iload (q := 5) dX8_copy_3 rfl rfl ?_
      refine K.sipush (q := 8) (v := 129) dX8_copy_5 rfl (by decide) ?_
      refine K.icmp_ge (q := 11) (tgt := 29) dX8_copy_8 rfl (by decide) (fun z => absurd z (nI_ge (a := i3) (b := 129) (by omega) (by omega))) (fun _ => ?_)
      refine K.aload_n (q := 12) dX8_copy_11 rfl rfl ?_
      refine K.iload_n (q := 13) dX8_copy_12 rfl rfl ?_
      refine K.iload (q := 15) dX8_copy_13 rfl rfl ?_
      refine K.iadd (q := 16) dX8_copy_15 rfl ?_
      refine K.aload_n (q := 17) dX8_copy_16 rfl rfl ?_
      refine K.iload_n (q := 18) dX8_copy_17 rfl rfl ?_
      refine K.iload (q := 20) dX8_copy_18 rfl rfl ?_
      refine K.iadd (q := 21) dX8_copy_20 rfl ?_
      obtain ⟨k_3, h⟩ := chk_inv h
      refine K.ial (q := 22) (f := (XX3.2.2.1 5)) (m := ((att + (nI i3)).toNatClampNeg)) rx132 (lt141 (by decide)) (cl_nI k_3.1) k_3.2 (by decide) dX8_copy_21 rfl ?_
      obtain ⟨k_4, h⟩ := chk_inv h
      refine K.ias (q := 23) (f := (XX3.2.2.1 6)) (m := ((thn + (nI i3)).toNatClampNeg)) rx133 (lt141 (by decide)) (cl_nI k_4.1) k_4.2 (by decide) pxa6 dX8_copy_22 rfl ?_
      refine K.iinc (q := 26) (v := (nI (i3 + 1))) dX8_copy_23 rfl rfl (nI_1 _) (by decide) rfl ?_
      refine K.goto (tgt := 3) dX8_copy_26 (by decide) ?_
      exact ih (i3 + 1) (uA XX3 6 (up (XX3.2.2.1 6) ((thn + (nI i3)).toNatClampNeg) ((XX3.2.2.1 5) ((att + (nI i3)).toNatClampNeg)))) _ (by omega) h hx
  obtain ⟨XX3_5, h9_5, h⟩ := bnd1_inv h
  refine L3 129 0 X _ (by omega) h9_5 ?_
  obtain e_Xo := ret1_inv h
  exact C.vret rfl rfl (congrArg mkH e_Xo) (Nat.le_of_ble_eq_true rfl) (Nat.le_of_ble_eq_true rfl) dX8_copy_29

def lp_X8_copy_133_132_3 (att : Int32) (thn : Int32) : Nat → Nat → GS → Option (GS)
  | 0, _, XX3 => some XX3
  | j3 + 1, i3, XX3 => (if inR (att + (nI i3)) 129 then (if inR (thn + (nI i3)) 129 then (lp_X8_copy_133_132_3 att thn j3 (i3 + 1) (uA XX3 5 (up (XX3.2.2.1 5) ((thn + (nI i3)).toNatClampNeg) ((XX3.2.2.1 6) ((att + (nI i3)).toNatClampNeg))))) else none) else none)

def m_X8_copy_133_132 (X : GS) (att : Int32) (thn : Int32) : Option (GS) := (bnd1 (lp_X8_copy_133_132_3 att thn 129 0 X) fun (XX3_5 : GS) => (some XX3_5))
set_option maxRecDepth 20000 in
set_option maxHeartbeats 1000000 in
theorem s_X8_copy_133_132 (X : GS) (att : Int32) (thn : Int32) {Xo : GS} (h : m_X8_copy_133_132 X att thn = some Xo) : Ct 1 0 0 yX8_copy (.code yX8_copy cX8_copy 5 none) [.ref 133, .int att, .ref 132, .int thn] (mkH X) (.inl none) (mkH Xo) := by
  refine Ct.of (LL := [some (.ref 133), some (.int att), some (.ref 132), some (.int thn), none]) mkX8_copy.1 owX8_copy rfl (Nat.le_of_ble_eq_true rfl) rfl (fun Wk C => ?_)
  have K := C.core
  rw [m_X8_copy_133_132] at h
  refine K.iconst (q := 1) (v := 0) dX8_copy_0 rfl (by decide) ?_
  refine K.istore (q := 3) dX8_copy_1 rfl (by decide) rfl ?_
  have L3 : ∀ (j3 i3 : Nat) (XX3 : GS) (XX3r : GS), i3 + j3 = 129 → lp_X8_copy_133_132_3 att thn j3 i3 XX3 = some XX3r → (Wk 0 0 29 [some (.ref 133), some (.int att), some (.ref 132), some (.int thn), none] [] (mkH XX3r)) → Wk 0 0 3 [some (.ref 133), some (.int att), some (.ref 132), some (.int thn), some (.int (nI i3))] [] (mkH XX3) := by
    intro j3
    induction j3 with
    | zero =>
      intro i3 XX3 XX3r hij h hx
      rw [lp_X8_copy_133_132_3] at h
      refine K.iload (q := 5) dX8_copy_3 rfl rfl ?_
      refine K.sipush (q := 8) (v := 129) dX8_copy_5 rfl (by decide) ?_
      refine K.icmp_ge (q := 11) (tgt := 29) dX8_copy_8 rfl (by decide) (fun _ => ?_) (fun z => absurd z (not_not_intro (nI_le (a := 129) (b := i3) (by omega) (by omega))))
      refine K.drop 4 ?_
      obtain q0 := ret1_inv h
      subst q0
      exact hx
    | succ j3 ih =>
      intro i3 XX3 XX3r hij h hx
      rw [lp_X8_copy_133_132_3] at h
      refine K.iload (q := 5) dX8_copy_3 rfl rfl ?_
      refine K.sipush (q := 8) (v := 129) dX8_copy_5 rfl (by decide) ?_
      refine K.icmp_ge (q := 11) (tgt := 29) dX8_copy_8 rfl (by decide) (fun z => absurd z (nI_ge (a := i3) (b := 129) (by omega) (by omega))) (fun _ => ?_)
      refine K.aload_n (q := 12) dX8_copy_11 rfl rfl ?_
      refine K.iload_n (q := 13) dX8_copy_12 rfl rfl ?_
      refine K.iload (q := 15) dX8_copy_13 rfl rfl ?_
      refine K.iadd (q := 16) dX8_copy_15 rfl ?_
      refine K.aload_n (q := 17) dX8_copy_16 rfl rfl ?_
      refine K.iload_n (q := 18) dX8_copy_17 rfl rfl ?_
      refine K.iload (q := 20) dX8_copy_18 rfl rfl ?_
      refine K.iadd (q := 21) dX8_copy_20 rfl ?_
      obtain ⟨k_3, h⟩ := chk_inv h
      refine K.ial (q := 22) (f := (XX3.2.2.1 6)) (m := ((att + (nI i3)).toNatClampNeg)) rx133 (lt141 (by decide)) (cl_nI k_3.1) k_3.2 (by decide) dX8_copy_21 rfl ?_
      obtain ⟨k_4, h⟩ := chk_inv h
      refine K.ias (q := 23) (f := (XX3.2.2.1 5)) (m := ((thn + (nI i3)).toNatClampNeg)) rx132 (lt141 (by decide)) (cl_nI k_4.1) k_4.2 (by decide) pxa5 dX8_copy_22 rfl ?_
      refine K.iinc (q := 26) (v := (nI (i3 + 1))) dX8_copy_23 rfl rfl (nI_1 _) (by decide) rfl ?_
      refine K.goto (tgt := 3) dX8_copy_26 (by decide) ?_
      exact ih (i3 + 1) (uA XX3 5 (up (XX3.2.2.1 5) ((thn + (nI i3)).toNatClampNeg) ((XX3.2.2.1 6) ((att + (nI i3)).toNatClampNeg)))) _ (by omega) h hx
  obtain ⟨XX3_5, h9_5, h⟩ := bnd1_inv h
  refine L3 129 0 X _ (by omega) h9_5 ?_
  obtain e_Xo := ret1_inv h
  exact C.vret rfl rfl (congrArg mkH e_Xo) (Nat.le_of_ble_eq_true rfl) (Nat.le_of_ble_eq_true rfl) dX8_copy_29

def lp_X8_copy_133_134_3 (att : Int32) (thn : Int32) : Nat → Nat → GS → Option (GS)
  | 0, _, XX3 => some XX3
  | j3 + 1, i3, XX3 => (if inR (att + (nI i3)) 129 then (if inR (thn + (nI i3)) 1032 then (lp_X8_copy_133_134_3 att thn j3 (i3 + 1) (uA XX3 7 (up (XX3.2.2.1 7) ((thn + (nI i3)).toNatClampNeg) ((XX3.2.2.1 6) ((att + (nI i3)).toNatClampNeg))))) else none) else none)

def m_X8_copy_133_134 (X : GS) (att : Int32) (thn : Int32) : Option (GS) := (bnd1 (lp_X8_copy_133_134_3 att thn 129 0 X) fun (XX3_5 : GS) => (some XX3_5))
set_option maxRecDepth 20000 in
set_option maxHeartbeats 1000000 in
theorem s_X8_copy_133_134 (X : GS) (att : Int32) (thn : Int32) {Xo : GS} (h : m_X8_copy_133_134 X att thn = some Xo) : Ct 1 0 0 yX8_copy (.code yX8_copy cX8_copy 5 none) [.ref 133, .int att, .ref 134, .int thn] (mkH X) (.inl none) (mkH Xo) := by
  refine Ct.of (LL := [some (.ref 133), some (.int att), some (.ref 134), some (.int thn), none]) mkX8_copy.1 owX8_copy rfl (Nat.le_of_ble_eq_true rfl) rfl (fun Wk C => ?_)
  have K := C.core
  rw [m_X8_copy_133_134] at h
  refine K.iconst (q := 1) (v := 0) dX8_copy_0 rfl (by decide) ?_
  refine K.istore (q := 3) dX8_copy_1 rfl (by decide) rfl ?_
  have L3 : ∀ (j3 i3 : Nat) (XX3 : GS) (XX3r : GS), i3 + j3 = 129 → lp_X8_copy_133_134_3 att thn j3 i3 XX3 = some XX3r → (Wk 0 0 29 [some (.ref 133), some (.int att), some (.ref 134), some (.int thn), none] [] (mkH XX3r)) → Wk 0 0 3 [some (.ref 133), some (.int att), some (.ref 134), some (.int thn), some (.int (nI i3))] [] (mkH XX3) := by
    intro j3
    induction j3 with
    | zero =>
      intro i3 XX3 XX3r hij h hx
      rw [lp_X8_copy_133_134_3] at h
      refine K.iload (q := 5) dX8_copy_3 rfl rfl ?_
      refine K.sipush (q := 8) (v := 129) dX8_copy_5 rfl (by decide) ?_
      refine K.icmp_ge (q := 11) (tgt := 29) dX8_copy_8 rfl (by decide) (fun _ => ?_) (fun z => absurd z (not_not_intro (nI_le (a := 129) (b := i3) (by omega) (by omega))))
      refine K.drop 4 ?_
      obtain q0 := ret1_inv h
      subst q0
      exact hx
    | succ j3 ih =>
      intro i3 XX3 XX3r hij h hx
      rw [lp_X8_copy_133_134_3] at h
      refine K.iload (q := 5) dX8_copy_3 rfl rfl ?_
      refine K.sipush (q := 8) (v := 129) dX8_copy_5 rfl (by decide) ?_
      refine K.icmp_ge (q := 11) (tgt := 29) dX8_copy_8 rfl (by decide) (fun z => absurd z (nI_ge (a := i3) (b := 129) (by omega) (by omega))) (fun _ => ?_)
      refine K.aload_n (q := 12) dX8_copy_11 rfl rfl ?_
      refine K.iload_n (q := 13) dX8_copy_12 rfl rfl ?_
      refine K.iload (q := 15) dX8_copy_13 rfl rfl ?_
      refine K.iadd (q := 16) dX8_copy_15 rfl ?_
      refine K.aload_n (q := 17) dX8_copy_16 rfl rfl ?_
      refine K.iload_n (q := 18) dX8_copy_17 rfl rfl ?_
      refine K.iload (q := 20) dX8_copy_18 rfl rfl ?_
      refine K.iadd (q := 21) dX8_copy_20 rfl ?_
      obtain ⟨k_3, h⟩ := chk_inv h
      refine K.ial (q := 22) (f := (XX3.2.2.1 6)) (m := ((att + (nI i3)).toNatClampNeg)) rx133 (lt141 (by decide)) (cl_nI k_3.1) k_3.2 (by decide) dX8_copy_21 rfl ?_
      obtain ⟨k_4, h⟩ := chk_inv h
      refine K.ias (q := 23) (f := (XX3.2.2.1 7)) (m := ((thn + (nI i3)).toNatClampNeg)) rx134 (lt141 (by decide)) (cl_nI k_4.1) k_4.2 (by decide) pxa7 dX8_copy_22 rfl ?_
      refine K.iinc (q := 26) (v := (nI (i3 + 1))) dX8_copy_23 rfl rfl (nI_1 _) (by decide) rfl ?_
      refine K.goto (tgt := 3) dX8_copy_26 (by decide) ?_
      exact ih (i3 + 1) (uA XX3 7 (up (XX3.2.2.1 7) ((thn + (nI i3)).toNatClampNeg) ((XX3.2.2.1 6) ((att + (nI i3)).toNatClampNeg)))) _ (by omega) h hx
  obtain ⟨XX3_5, h9_5, h⟩ := bnd1_inv h
  refine L3 129 0 X _ (by omega) h9_5 ?_
  obtain e_Xo := ret1_inv h
  exact C.vret rfl rfl (congrArg mkH e_Xo) (Nat.le_of_ble_eq_true rfl) (Nat.le_of_ble_eq_true rfl) dX8_copy_29

def lp_X8_copy_134_132_3 (att : Int32) (thn : Int32) : Nat → Nat → GS → Option (GS)
  | 0, _, XX3 => some XX3
  | j3 + 1, i3, XX3 => (if inR (att + (nI i3)) 1032 then (if inR (thn + (nI i3)) 129 then (lp_X8_copy_134_132_3 att thn j3 (i3 + 1) (uA XX3 5 (up (XX3.2.2.1 5) ((thn + (nI i3)).toNatClampNeg) ((XX3.2.2.1 7) ((att + (nI i3)).toNatClampNeg))))) else none) else none)

def m_X8_copy_134_132 (X : GS) (att : Int32) (thn : Int32) : Option (GS) := (bnd1 (lp_X8_copy_134_132_3 att thn 129 0 X) fun (XX3_5 : GS) => (some XX3_5))
set_option maxRecDepth 20000 in
set_option maxHeartbeats 1000000 in
theorem s_X8_copy_134_132 (X : GS) (att : Int32) (thn : Int32) {Xo : GS} (h : m_X8_copy_134_132 X att thn = some Xo) : Ct 1 0 0 yX8_copy (.code yX8_copy cX8_copy 5 none) [.ref 134, .int att, .ref 132, .int thn] (mkH X) (.inl none) (mkH Xo) := by
  refine Ct.of (LL := [some (.ref 134), some (.int att), some (.ref 132), some (.int thn), none]) mkX8_copy.1 owX8_copy rfl (Nat.le_of_ble_eq_true rfl) rfl (fun Wk C => ?_)
  have K := C.core
  rw [m_X8_copy_134_132] at h
  refine K.iconst (q := 1) (v := 0) dX8_copy_0 rfl (by decide) ?_
  refine K.istore (q := 3) dX8_copy_1 rfl (by decide) rfl ?_
  have L3 : ∀ (j3 i3 : Nat) (XX3 : GS) (XX3r : GS), i3 + j3 = 129 → lp_X8_copy_134_132_3 att thn j3 i3 XX3 = some XX3r → (Wk 0 0 29 [some (.ref 134), some (.int att), some (.ref 132), some (.int thn), none] [] (mkH XX3r)) → Wk 0 0 3 [some (.ref 134), some (.int att), some (.ref 132), some (.int thn), some (.int (nI i3))] [] (mkH XX3) := by
    intro j3
    induction j3 with
    | zero =>
      intro i3 XX3 XX3r hij h hx
      rw [lp_X8_copy_134_132_3] at h
      refine K.iload (q := 5) dX8_copy_3 rfl rfl ?_
      refine K.sipush (q := 8) (v := 129) dX8_copy_5 rfl (by decide) ?_
      refine K.icmp_ge (q := 11) (tgt := 29) dX8_copy_8 rfl (by decide) (fun _ => ?_) (fun z => absurd z (not_not_intro (nI_le (a := 129) (b := i3) (by omega) (by omega))))
      refine K.drop 4 ?_
      obtain q0 := ret1_inv h
      subst q0
      exact hx
    | succ j3 ih =>
      intro i3 XX3 XX3r hij h hx
      rw [lp_X8_copy_134_132_3] at h
      refine K.iload (q := 5) dX8_copy_3 rfl rfl ?_
      refine K.sipush (q := 8) (v := 129) dX8_copy_5 rfl (by decide) ?_
      refine K.icmp_ge (q := 11) (tgt := 29) dX8_copy_8 rfl (by decide) (fun z => absurd z (nI_ge (a := i3) (b := 129) (by omega) (by omega))) (fun _ => ?_)
      refine K.aload_n (q := 12) dX8_copy_11 rfl rfl ?_
      refine K.iload_n (q := 13) dX8_copy_12 rfl rfl ?_
      refine K.iload (q := 15) dX8_copy_13 rfl rfl ?_
      refine K.iadd (q := 16) dX8_copy_15 rfl ?_
      refine K.aload_n (q := 17) dX8_copy_16 rfl rfl ?_
      refine K.iload_n (q := 18) dX8_copy_17 rfl rfl ?_
      refine K.iload (q := 20) dX8_copy_18 rfl rfl ?_
      refine K.iadd (q := 21) dX8_copy_20 rfl ?_
      obtain ⟨k_3, h⟩ := chk_inv h
      refine K.ial (q := 22) (f := (XX3.2.2.1 7)) (m := ((att + (nI i3)).toNatClampNeg)) rx134 (lt141 (by decide)) (cl_nI k_3.1) k_3.2 (by decide) dX8_copy_21 rfl ?_
      obtain ⟨k_4, h⟩ := chk_inv h
      refine K.ias (q := 23) (f := (XX3.2.2.1 5)) (m := ((thn + (nI i3)).toNatClampNeg)) rx132 (lt141 (by decide)) (cl_nI k_4.1) k_4.2 (by decide) pxa5 dX8_copy_22 rfl ?_
      refine K.iinc (q := 26) (v := (nI (i3 + 1))) dX8_copy_23 rfl rfl (nI_1 _) (by decide) rfl ?_
      refine K.goto (tgt := 3) dX8_copy_26 (by decide) ?_
      exact ih (i3 + 1) (uA XX3 5 (up (XX3.2.2.1 5) ((thn + (nI i3)).toNatClampNeg) ((XX3.2.2.1 7) ((att + (nI i3)).toNatClampNeg)))) _ (by omega) h hx
  obtain ⟨XX3_5, h9_5, h⟩ := bnd1_inv h
  refine L3 129 0 X _ (by omega) h9_5 ?_
  obtain e_Xo := ret1_inv h
  exact C.vret rfl rfl (congrArg mkH e_Xo) (Nat.le_of_ble_eq_true rfl) (Nat.le_of_ble_eq_true rfl) dX8_copy_29

def lp_X8_copy_132_135_3 (att : Int32) (thn : Int32) : Nat → Nat → GS → Option (GS)
  | 0, _, XX3 => some XX3
  | j3 + 1, i3, XX3 => (if inR (att + (nI i3)) 129 then (if inR (thn + (nI i3)) 129 then (lp_X8_copy_132_135_3 att thn j3 (i3 + 1) (uA XX3 8 (up (XX3.2.2.1 8) ((thn + (nI i3)).toNatClampNeg) ((XX3.2.2.1 5) ((att + (nI i3)).toNatClampNeg))))) else none) else none)

def m_X8_copy_132_135 (X : GS) (att : Int32) (thn : Int32) : Option (GS) := (bnd1 (lp_X8_copy_132_135_3 att thn 129 0 X) fun (XX3_5 : GS) => (some XX3_5))
set_option maxRecDepth 20000 in
set_option maxHeartbeats 1000000 in
theorem s_X8_copy_132_135 (X : GS) (att : Int32) (thn : Int32) {Xo : GS} (h : m_X8_copy_132_135 X att thn = some Xo) : Ct 1 0 0 yX8_copy (.code yX8_copy cX8_copy 5 none) [.ref 132, .int att, .ref 135, .int thn] (mkH X) (.inl none) (mkH Xo) := by
  refine Ct.of (LL := [some (.ref 132), some (.int att), some (.ref 135), some (.int thn), none]) mkX8_copy.1 owX8_copy rfl (Nat.le_of_ble_eq_true rfl) rfl (fun Wk C => ?_)
  have K := C.core
  rw [m_X8_copy_132_135] at h
  refine K.iconst (q := 1) (v := 0) dX8_copy_0 rfl (by decide) ?_
  refine K.istore (q := 3) dX8_copy_1 rfl (by decide) rfl ?_
  have L3 : ∀ (j3 i3 : Nat) (XX3 : GS) (XX3r : GS), i3 + j3 = 129 → lp_X8_copy_132_135_3 att thn j3 i3 XX3 = some XX3r → (Wk 0 0 29 [some (.ref 132), some (.int att), some (.ref 135), some (.int thn), none] [] (mkH XX3r)) → Wk 0 0 3 [some (.ref 132), some (.int att), some (.ref 135), some (.int thn), some (.int (nI i3))] [] (mkH XX3) := by
    intro j3
    induction j3 with
    | zero =>
      intro i3 XX3 XX3r hij h hx
      rw [lp_X8_copy_132_135_3] at h
      refine K.iload (q := 5) dX8_copy_3 rfl rfl ?_
      refine K.sipush (q := 8) (v := 129) dX8_copy_5 rfl (by decide) ?_
      refine K.icmp_ge (q := 11) (tgt := 29) dX8_copy_8 rfl (by decide) (fun _ => ?_) (fun z => absurd z (not_not_intro (nI_le (a := 129) (b := i3) (by omega) (by omega))))
      refine K.drop 4 ?_
      obtain q0 := ret1_inv h
      subst q0
      exact hx
    | succ j3 ih =>
      intro i3 XX3 XX3r hij h hx
      rw [lp_X8_copy_132_135_3] at h
      refine K.iload (q := 5) dX8_copy_3 rfl rfl ?_
      refine K.sipush (q := 8) (v := 129) dX8_copy_5 rfl (by decide) ?_
      refine K.icmp_ge (q := 11) (tgt := 29) dX8_copy_8 rfl (by decide) (fun z => absurd z (nI_ge (a := i3) (b := 129) (by omega) (by omega))) (fun _ => ?_)
      refine K.aload_n (q := 12) dX8_copy_11 rfl rfl ?_
      refine K.iload_n (q := 13) dX8_copy_12 rfl rfl ?_
      refine K.iload (q := 15) dX8_copy_13 rfl rfl ?_
      refine K.iadd (q := 16) dX8_copy_15 rfl ?_
      refine K.aload_n (q := 17) dX8_copy_16 rfl rfl ?_
      refine K.iload_n (q := 18) dX8_copy_17 rfl rfl ?_
      refine K.iload (q := 20) dX8_copy_18 rfl rfl ?_
      refine K.iadd (q := 21) dX8_copy_20 rfl ?_
      obtain ⟨k_3, h⟩ := chk_inv h
      refine K.ial (q := 22) (f := (XX3.2.2.1 5)) (m := ((att + (nI i3)).toNatClampNeg)) rx132 (lt141 (by decide)) (cl_nI k_3.1) k_3.2 (by decide) dX8_copy_21 rfl ?_
      obtain ⟨k_4, h⟩ := chk_inv h
      refine K.ias (q := 23) (f := (XX3.2.2.1 8)) (m := ((thn + (nI i3)).toNatClampNeg)) rx135 (lt141 (by decide)) (cl_nI k_4.1) k_4.2 (by decide) pxa8 dX8_copy_22 rfl ?_
      refine K.iinc (q := 26) (v := (nI (i3 + 1))) dX8_copy_23 rfl rfl (nI_1 _) (by decide) rfl ?_
      refine K.goto (tgt := 3) dX8_copy_26 (by decide) ?_
      exact ih (i3 + 1) (uA XX3 8 (up (XX3.2.2.1 8) ((thn + (nI i3)).toNatClampNeg) ((XX3.2.2.1 5) ((att + (nI i3)).toNatClampNeg)))) _ (by omega) h hx
  obtain ⟨XX3_5, h9_5, h⟩ := bnd1_inv h
  refine L3 129 0 X _ (by omega) h9_5 ?_
  obtain e_Xo := ret1_inv h
  exact C.vret rfl rfl (congrArg mkH e_Xo) (Nat.le_of_ble_eq_true rfl) (Nat.le_of_ble_eq_true rfl) dX8_copy_29

def lp_X8_copy_135_132_3 (att : Int32) (thn : Int32) : Nat → Nat → GS → Option (GS)
  | 0, _, XX3 => some XX3
  | j3 + 1, i3, XX3 => (if inR (att + (nI i3)) 129 then (if inR (thn + (nI i3)) 129 then (lp_X8_copy_135_132_3 att thn j3 (i3 + 1) (uA XX3 5 (up (XX3.2.2.1 5) ((thn + (nI i3)).toNatClampNeg) ((XX3.2.2.1 8) ((att + (nI i3)).toNatClampNeg))))) else none) else none)

def m_X8_copy_135_132 (X : GS) (att : Int32) (thn : Int32) : Option (GS) := (bnd1 (lp_X8_copy_135_132_3 att thn 129 0 X) fun (XX3_5 : GS) => (some XX3_5))
set_option maxRecDepth 20000 in
set_option maxHeartbeats 1000000 in
theorem s_X8_copy_135_132 (X : GS) (att : Int32) (thn : Int32) {Xo : GS} (h : m_X8_copy_135_132 X att thn = some Xo) : Ct 1 0 0 yX8_copy (.code yX8_copy cX8_copy 5 none) [.ref 135, .int att, .ref 132, .int thn] (mkH X) (.inl none) (mkH Xo) := by
  refine Ct.of (LL := [some (.ref 135), some (.int att), some (.ref 132), some (.int thn), none]) mkX8_copy.1 owX8_copy rfl (Nat.le_of_ble_eq_true rfl) rfl (fun Wk C => ?_)
  have K := C.core
  rw [m_X8_copy_135_132] at h
  refine K.iconst (q := 1) (v := 0) dX8_copy_0 rfl (by decide) ?_
  refine K.istore (q := 3) dX8_copy_1 rfl (by decide) rfl ?_
  have L3 : ∀ (j3 i3 : Nat) (XX3 : GS) (XX3r : GS), i3 + j3 = 129 → lp_X8_copy_135_132_3 att thn j3 i3 XX3 = some XX3r → (Wk 0 0 29 [some (.ref 135), some (.int att), some (.ref 132), some (.int thn), none] [] (mkH XX3r)) → Wk 0 0 3 [some (.ref 135), some (.int att), some (.ref 132), some (.int thn), some (.int (nI i3))] [] (mkH XX3) := by
    intro j3
    induction j3 with
    | zero =>
      intro i3 XX3 XX3r hij h hx
      rw [lp_X8_copy_135_132_3] at h
      refine K.iload (q := 5) dX8_copy_3 rfl rfl ?_
      refine K.sipush (q := 8) (v := 129) dX8_copy_5 rfl (by decide) ?_
      refine K.icmp_ge (q := 11) (tgt := 29) dX8_copy_8 rfl (by decide) (fun _ => ?_) (fun z => absurd z (not_not_intro (nI_le (a := 129) (b := i3) (by omega) (by omega))))
      refine K.drop 4 ?_
      obtain q0 := ret1_inv h
      subst q0
      exact hx
    | succ j3 ih =>
      intro i3 XX3 XX3r hij h hx
      rw [lp_X8_copy_135_132_3] at h
      refine K.iload (q := 5) dX8_copy_3 rfl rfl ?_
      refine K.sipush (q := 8) (v := 129) dX8_copy_5 rfl (by decide) ?_
      refine K.icmp_ge (q := 11) (tgt := 29) dX8_copy_8 rfl (by decide) (fun z => absurd z (nI_ge (a := i3) (b := 129) (by omega) (by omega))) (fun _ => ?_)
      refine K.aload_n (q := 12) dX8_copy_11 rfl rfl ?_
      refine K.iload_n (q := 13) dX8_copy_12 rfl rfl ?_
      refine K.iload (q := 15) dX8_copy_13 rfl rfl ?_
      refine K.iadd (q := 16) dX8_copy_15 rfl ?_
      refine K.aload_n (q := 17) dX8_copy_16 rfl rfl ?_
      refine K.iload_n (q := 18) dX8_copy_17 rfl rfl ?_
      refine K.iload (q := 20) dX8_copy_18 rfl rfl ?_
      refine K.iadd (q := 21) dX8_copy_20 rfl ?_
      obtain ⟨k_3, h⟩ := chk_inv h
      refine K.ial (q := 22) (f := (XX3.2.2.1 8)) (m := ((att + (nI i3)).toNatClampNeg)) rx135 (lt141 (by decide)) (cl_nI k_3.1) k_3.2 (by decide) dX8_copy_21 rfl ?_
      obtain ⟨k_4, h⟩ := chk_inv h
      refine K.ias (q := 23) (f := (XX3.2.2.1 5)) (m := ((thn + (nI i3)).toNatClampNeg)) rx132 (lt141 (by decide)) (cl_nI k_4.1) k_4.2 (by decide) pxa5 dX8_copy_22 rfl ?_
      refine K.iinc (q := 26) (v := (nI (i3 + 1))) dX8_copy_23 rfl rfl (nI_1 _) (by decide) rfl ?_
      refine K.goto (tgt := 3) dX8_copy_26 (by decide) ?_
      exact ih (i3 + 1) (uA XX3 5 (up (XX3.2.2.1 5) ((thn + (nI i3)).toNatClampNeg) ((XX3.2.2.1 8) ((att + (nI i3)).toNatClampNeg)))) _ (by omega) h hx
  obtain ⟨XX3_5, h9_5, h⟩ := bnd1_inv h
  refine L3 129 0 X _ (by omega) h9_5 ?_
  obtain e_Xo := ret1_inv h
  exact C.vret rfl rfl (congrArg mkH e_Xo) (Nat.le_of_ble_eq_true rfl) (Nat.le_of_ble_eq_true rfl) dX8_copy_29

def m_X8_looksBack (X : GS) : Option (GS) := (bnd1 (m_X8_copy_132_133 X 0 0) fun (X1 : GS) => (some X1))
set_option maxRecDepth 20000 in
set_option maxHeartbeats 1000000 in
theorem s_X8_looksBack (X : GS) {Xo : GS} (h : m_X8_looksBack X = some Xo) : Ct 2 0 0 yX8_looksBack (.code yX8_looksBack cX8_looksBack 1 none) [.ref 131] (mkH X) (.inl none) (mkH Xo) := by
  refine Ct.of (LL := [some (.ref 131)]) mkX8_looksBack.1 owX8_looksBack rfl (Nat.le_of_ble_eq_true rfl) rfl (fun Wk C => ?_)
  have K := C.core
  rw [m_X8_looksBack] at h
  refine K.aload_n (q := 1) dX8_looksBack_0 rfl rfl ?_
  refine K.getf (q := 4) (v := .ref 132) fo_X8_7.r rx131 (lt141 (by decide)) rfl dX8_looksBack_1 rfl ?_
  refine K.iconst (q := 5) (v := 0) dX8_looksBack_4 rfl (by decide) ?_
  refine K.aload_n (q := 6) dX8_looksBack_5 rfl rfl ?_
  refine K.getf (q := 9) (v := .ref 133) fo_X8_13.r rx131 (lt141 (by decide)) rfl dX8_looksBack_6 rfl ?_
  refine K.iconst (q := 10) (v := 0) dX8_looksBack_9 rfl (by decide) ?_
  obtain ⟨X1, h9_1, h⟩ := bnd1_inv h
  refine K.callSv0 (q := 13) mkX8_copy mw_X8_49 (s_X8_copy_132_133 _ _ _ h9_1) rfl (by decide) rfl (Nat.le_of_ble_eq_true rfl) (Nat.le_of_ble_eq_true rfl) (Nat.le_of_ble_eq_true rfl) dX8_looksBack_10 rfl ?_
  obtain e_Xo := ret1_inv h
  exact C.vret rfl rfl (congrArg mkH e_Xo) (Nat.le_of_ble_eq_true rfl) (Nat.le_of_ble_eq_true rfl) dX8_looksBack_13

def lp_X8_kept_33 : Nat → Nat → GS → Option (GS)
  | 0, _, XX33 => some XX33
  | j33 + 1, i33, XX33 => (lp_X8_kept_33 j33 (i33 + 1) (uA XX33 7 (up (XX33.2.2.1 7) i33 ((XX33.2.2.1 7) ((i33 + 129))))))

def m_X8_kept (X : GS) (v : Int32) : Option (Int32 × GS) := (if (X.2.1 19) = 0 then (if (X.2.1 11) = 8 then (bnd1 (lp_X8_kept_33 903 0 X) fun (XX33_6 : GS) => (bnd1 (m_X8_copy_133_134 (uS XX33_6 11 ((XX33_6.2.1 11) - 1)) 0 (((XX33_6.2.1 11) - 1) * 129)) fun (X7 : GS) => (some (v, (uS X7 11 ((X7.2.1 11) + 1)))))) else (bnd1 (m_X8_copy_133_134 X 0 ((X.2.1 11) * 129)) fun (X3 : GS) => (some (v, (uS X3 11 ((X3.2.1 11) + 1)))))) else (bnd1 (m_X8_copy_133_132 X 0 0) fun (X8 : GS) => (some (0, X8))))
set_option maxRecDepth 20000 in
set_option maxHeartbeats 1000000 in
theorem s_X8_kept (X : GS) (v : Int32) {vo : Int32} {Xo : GS} (h : m_X8_kept X v = some (vo, Xo)) : Ct 2 0 0 yX8_kept (.code yX8_kept cX8_kept 3 (some (.int))) [.ref 131, .int v] (mkH X) (.inl (some (.int vo))) (mkH Xo) := by
  refine Ct.of (LL := [some (.ref 131), some (.int v), none]) mkX8_kept.1 owX8_kept rfl (Nat.le_of_ble_eq_true rfl) rfl (fun Wk C => ?_)
  have K := C.core
  rw [m_X8_kept] at h
  refine K.aload_n (q := 1) dX8_kept_0 rfl rfl ?_
  refine K.getf (q := 4) (v := .int (X.2.1 19)) fo_X8_36.r rx131 (lt141 (by decide)) rfl dX8_kept_1 rfl ?_
  refine K.if_eq (q := 7) (tgt := 22) dX8_kept_4 rfl (by decide) (fun c_4_1 => ?_) (fun c_4_1 => ?_)
  · rw [if_pos c_4_1] at h
    refine K.aload_n (q := 23) dX8_kept_22 rfl rfl ?_
    refine K.getf (q := 26) (v := .int (X.2.1 11)) fo_X8_53.r rx131 (lt141 (by decide)) rfl dX8_kept_23 rfl ?_
    refine K.bipush (q := 28) (v := 8) dX8_kept_26 rfl (by decide) ?_
    refine K.icmp_ne (q := 31) (tgt := 72) dX8_kept_28 rfl (by decide) (fun c_28_2 => ?_) (fun c_28_2 => ?_)
    · rw [if_neg c_28_2] at h
      refine K.aload_n (q := 73) dX8_kept_72 rfl rfl ?_
      refine K.getf (q := 76) (v := .ref 133) fo_X8_13.r rx131 (lt141 (by decide)) rfl dX8_kept_73 rfl ?_
      refine K.iconst (q := 77) (v := 0) dX8_kept_76 rfl (by decide) ?_
      refine K.aload_n (q := 78) dX8_kept_77 rfl rfl ?_
      refine K.getf (q := 81) (v := .ref 134) fo_X8_16.r rx131 (lt141 (by decide)) rfl dX8_kept_78 rfl ?_
      refine K.aload_n (q := 82) dX8_kept_81 rfl rfl ?_
      refine K.getf (q := 85) (v := .int (X.2.1 11)) fo_X8_53.r rx131 (lt141 (by decide)) rfl dX8_kept_82 rfl ?_
      refine K.sipush (q := 88) (v := 129) dX8_kept_85 rfl (by decide) ?_
      refine K.imul (q := 89) dX8_kept_88 rfl ?_
      obtain ⟨X3, h9_3, h⟩ := bnd1_inv h
      refine K.callSv0 (q := 92) mkX8_copy mw_X8_49 (s_X8_copy_133_134 _ _ _ h9_3) rfl (by decide) rfl (Nat.le_of_ble_eq_true rfl) (Nat.le_of_ble_eq_true rfl) (Nat.le_of_ble_eq_true rfl) dX8_kept_89 rfl ?_
      refine K.aload_n (q := 93) dX8_kept_92 rfl rfl ?_
      refine K.dup (q := 94) dX8_kept_93 rfl rfl ?_
      refine K.getf (q := 97) (v := .int (X3.2.1 11)) fo_X8_53.r rx131 (lt141 (by decide)) rfl dX8_kept_94 rfl ?_
      refine K.iconst (q := 98) (v := 1) dX8_kept_97 rfl (by decide) ?_
      refine K.iadd (q := 99) dX8_kept_98 rfl ?_
      refine K.putf (q := 102) fo_X8_53 rx131 (lt141 (by decide)) (Nat.le_of_ble_eq_true rfl) (fun _ => rfl) (fun _ => rfl) pxs11 dX8_kept_99 rfl ?_
      refine K.iload_n (q := 103) dX8_kept_102 rfl rfl ?_
      obtain ⟨e_vo, e_Xo⟩ := ret2_inv h
      exact C.iret rfl rfl (congrArg (fun z => Sum.inl (some (Value.int z))) e_vo.symm) (congrArg mkH e_Xo) (Nat.le_of_ble_eq_true rfl) (Nat.le_of_ble_eq_true rfl) dX8_kept_103
    · rw [if_pos c_28_2] at h
      refine K.iconst (q := 32) (v := 0) dX8_kept_31 rfl (by decide) ?_
      refine K.istore_n (q := 33) (i := 2) dX8_kept_32 rfl rfl (by decide) rfl ?_
      have L33 : ∀ (j33 i33 : Nat) (XX33 : GS) (XX33r : GS), i33 + j33 = 903 → lp_X8_kept_33 j33 i33 XX33 = some XX33r → (Wk 0 0 62 [some (.ref 131), some (.int v), none] [] (mkH XX33r)) → Wk 0 0 33 [some (.ref 131), some (.int v), some (.int (nI i33))] [] (mkH XX33) := by
        intro j33
        induction j33 with
        | zero =>
          intro i33 XX33 XX33r hij h hx
          rw [lp_X8_kept_33] at h
          refine K.iload_n (q := 34) dX8_kept_33 rfl rfl ?_
          refine K.sipush (q := 37) (v := 903) dX8_kept_34 rfl (by decide) ?_
          refine K.icmp_ge (q := 40) (tgt := 62) dX8_kept_37 rfl (by decide) (fun _ => ?_) (fun z => absurd z (not_not_intro (nI_le (a := 903) (b := i33) (by omega) (by omega))))
          refine K.drop 2 ?_
          obtain q0 := ret1_inv h
          subst q0
          exact hx
        | succ j33 ih =>
          intro i33 XX33 XX33r hij h hx
          rw [lp_X8_kept_33] at h
          refine K.iload_n (q := 34) dX8_kept_33 rfl rfl ?_
          refine K.sipush (q := 37) (v := 903) dX8_kept_34 rfl (by decide) ?_
          refine K.icmp_ge (q := 40) (tgt := 62) dX8_kept_37 rfl (by decide) (fun z => absurd z (nI_ge (a := i33) (b := 903) (by omega) (by omega))) (fun _ => ?_)
          refine K.aload_n (q := 41) dX8_kept_40 rfl rfl ?_
          refine K.getf (q := 44) (v := .ref 134) fo_X8_16.r rx131 (lt141 (by decide)) rfl dX8_kept_41 rfl ?_
          refine K.iload_n (q := 45) dX8_kept_44 rfl rfl ?_
          refine K.aload_n (q := 46) dX8_kept_45 rfl rfl ?_
          refine K.getf (q := 49) (v := .ref 134) fo_X8_16.r rx131 (lt141 (by decide)) rfl dX8_kept_46 rfl ?_
          refine K.iload_n (q := 50) dX8_kept_49 rfl rfl ?_
          refine K.sipush (q := 53) (v := 129) dX8_kept_50 rfl (by decide) ?_
          refine K.iaddE (q := 54) (z := (nI (i33 + 129))) (nI_add i33 129) dX8_kept_53 rfl ?_
          refine K.ial (q := 55) (f := (XX33.2.2.1 7)) (m := ((i33 + 129))) rx134 (lt141 (by decide)) rfl (by omega) (by decide) dX8_kept_54 rfl ?_
          refine K.ias (q := 56) (f := (XX33.2.2.1 7)) (m := i33) rx134 (lt141 (by decide)) rfl (by omega) (by decide) pxa7 dX8_kept_55 rfl ?_
          refine K.iinc (q := 59) (v := (nI (i33 + 1))) dX8_kept_56 rfl rfl (nI_1 _) (by decide) rfl ?_
          refine K.goto (tgt := 33) dX8_kept_59 (by decide) ?_
          exact ih (i33 + 1) (uA XX33 7 (up (XX33.2.2.1 7) i33 ((XX33.2.2.1 7) ((i33 + 129))))) _ (by omega) h hx
      obtain ⟨XX33_6, h9_6, h⟩ := bnd1_inv h
      refine L33 903 0 X _ (by omega) h9_6 ?_
      refine K.aload_n (q := 63) dX8_kept_62 rfl rfl ?_
      refine K.dup (q := 64) dX8_kept_63 rfl rfl ?_
      refine K.getf (q := 67) (v := .int (XX33_6.2.1 11)) fo_X8_53.r rx131 (lt141 (by decide)) rfl dX8_kept_64 rfl ?_
      refine K.iconst (q := 68) (v := 1) dX8_kept_67 rfl (by decide) ?_
      refine K.isub (q := 69) dX8_kept_68 rfl ?_
      refine K.putf (q := 72) fo_X8_53 rx131 (lt141 (by decide)) (Nat.le_of_ble_eq_true rfl) (fun _ => rfl) (fun _ => rfl) pxs11 dX8_kept_69 rfl ?_
      refine K.aload_n (q := 73) dX8_kept_72 rfl rfl ?_
      refine K.getf (q := 76) (v := .ref 133) fo_X8_13.r rx131 (lt141 (by decide)) rfl dX8_kept_73 rfl ?_
      refine K.iconst (q := 77) (v := 0) dX8_kept_76 rfl (by decide) ?_
      refine K.aload_n (q := 78) dX8_kept_77 rfl rfl ?_
      refine K.getf (q := 81) (v := .ref 134) fo_X8_16.r rx131 (lt141 (by decide)) rfl dX8_kept_78 rfl ?_
      refine K.aload_n (q := 82) dX8_kept_81 rfl rfl ?_
      refine K.getf (q := 85) (v := .int ((XX33_6.2.1 11) - 1)) fo_X8_53.r rx131 (lt141 (by decide)) rfl dX8_kept_82 rfl ?_
      refine K.sipush (q := 88) (v := 129) dX8_kept_85 rfl (by decide) ?_
      refine K.imul (q := 89) dX8_kept_88 rfl ?_
      obtain ⟨X7, h9_7, h⟩ := bnd1_inv h
      refine K.callSv0 (q := 92) mkX8_copy mw_X8_49 (s_X8_copy_133_134 _ _ _ h9_7) rfl (by decide) rfl (Nat.le_of_ble_eq_true rfl) (Nat.le_of_ble_eq_true rfl) (Nat.le_of_ble_eq_true rfl) dX8_kept_89 rfl ?_
      refine K.aload_n (q := 93) dX8_kept_92 rfl rfl ?_
      refine K.dup (q := 94) dX8_kept_93 rfl rfl ?_
      refine K.getf (q := 97) (v := .int (X7.2.1 11)) fo_X8_53.r rx131 (lt141 (by decide)) rfl dX8_kept_94 rfl ?_
      refine K.iconst (q := 98) (v := 1) dX8_kept_97 rfl (by decide) ?_
      refine K.iadd (q := 99) dX8_kept_98 rfl ?_
      refine K.putf (q := 102) fo_X8_53 rx131 (lt141 (by decide)) (Nat.le_of_ble_eq_true rfl) (fun _ => rfl) (fun _ => rfl) pxs11 dX8_kept_99 rfl ?_
      refine K.iload_n (q := 103) dX8_kept_102 rfl rfl ?_
      obtain ⟨e_vo, e_Xo⟩ := ret2_inv h
      exact C.iret rfl rfl (congrArg (fun z => Sum.inl (some (Value.int z))) e_vo.symm) (congrArg mkH e_Xo) (Nat.le_of_ble_eq_true rfl) (Nat.le_of_ble_eq_true rfl) dX8_kept_103
  · rw [if_neg c_4_1] at h
    refine K.aload_n (q := 8) dX8_kept_7 rfl rfl ?_
    refine K.getf (q := 11) (v := .ref 133) fo_X8_13.r rx131 (lt141 (by decide)) rfl dX8_kept_8 rfl ?_
    refine K.iconst (q := 12) (v := 0) dX8_kept_11 rfl (by decide) ?_
    refine K.aload_n (q := 13) dX8_kept_12 rfl rfl ?_
    refine K.getf (q := 16) (v := .ref 132) fo_X8_7.r rx131 (lt141 (by decide)) rfl dX8_kept_13 rfl ?_
    refine K.iconst (q := 17) (v := 0) dX8_kept_16 rfl (by decide) ?_
    obtain ⟨X8, h9_8, h⟩ := bnd1_inv h
    refine K.callSv0 (q := 20) mkX8_copy mw_X8_49 (s_X8_copy_133_132 _ _ _ h9_8) rfl (by decide) rfl (Nat.le_of_ble_eq_true rfl) (Nat.le_of_ble_eq_true rfl) (Nat.le_of_ble_eq_true rfl) dX8_kept_17 rfl ?_
    refine K.iconst (q := 21) (v := 0) dX8_kept_20 rfl (by decide) ?_
    obtain ⟨e_vo, e_Xo⟩ := ret2_inv h
    exact C.iret rfl rfl (congrArg (fun z => Sum.inl (some (Value.int z))) e_vo.symm) (congrArg mkH e_Xo) (Nat.le_of_ble_eq_true rfl) (Nat.le_of_ble_eq_true rfl) dX8_kept_21

def m_X8_isName (name : Int32) : Option (Int32) := (bnd1 (m_X8_in name 0 99) fun (v1 : Int32) => (some v1))
set_option maxRecDepth 20000 in
set_option maxHeartbeats 1000000 in
theorem s_X8_isName (X : GS) (name : Int32) {vo : Int32} (h : m_X8_isName name = some vo) : Ct 2 0 0 yX8_isName (.code yX8_isName cX8_isName 1 (some (.boolean))) [.int name] (mkH X) (.inl (some (.int vo))) (mkH X) := by
  refine Ct.of (LL := [some (.int name)]) mkX8_isName.1 owX8_isName rfl (Nat.le_of_ble_eq_true rfl) rfl (fun Wk C => ?_)
  have K := C.core
  rw [m_X8_isName] at h
  refine K.iload_n (q := 1) dX8_isName_0 rfl rfl ?_
  refine K.iconst (q := 2) (v := 0) dX8_isName_1 rfl (by decide) ?_
  refine K.bipush (q := 4) (v := 99) dX8_isName_2 rfl (by decide) ?_
  obtain ⟨v1, h9_1, h⟩ := bnd1_inv h
  refine K.callS0 (q := 7) mkX8_in mw_X8_56 (s_X8_in _ _ _ _ h9_1) rfl (by decide) rfl (Nat.le_of_ble_eq_true rfl) (Nat.le_of_ble_eq_true rfl) (Nat.le_of_ble_eq_true rfl) dX8_isName_4 rfl ?_
  obtain e_vo := ret1_inv h
  exact C.iret rfl (bool_in h9_1) (congrArg (fun z => Sum.inl (some (Value.int z))) e_vo.symm) rfl (Nat.le_of_ble_eq_true rfl) (Nat.le_of_ble_eq_true rfl) dX8_isName_7

def m_X8_isAmount (amount : Int32) : Option (Int32) := (bnd1 (m_X8_in amount 1 64) fun (v1 : Int32) => (some v1))
set_option maxRecDepth 20000 in
set_option maxHeartbeats 1000000 in
theorem s_X8_isAmount (X : GS) (amount : Int32) {vo : Int32} (h : m_X8_isAmount amount = some vo) : Ct 2 0 0 yX8_isAmount (.code yX8_isAmount cX8_isAmount 1 (some (.boolean))) [.int amount] (mkH X) (.inl (some (.int vo))) (mkH X) := by
  refine Ct.of (LL := [some (.int amount)]) mkX8_isAmount.1 owX8_isAmount rfl (Nat.le_of_ble_eq_true rfl) rfl (fun Wk C => ?_)
  have K := C.core
  rw [m_X8_isAmount] at h
  refine K.iload_n (q := 1) dX8_isAmount_0 rfl rfl ?_
  refine K.iconst (q := 2) (v := 1) dX8_isAmount_1 rfl (by decide) ?_
  refine K.bipush (q := 4) (v := 64) dX8_isAmount_2 rfl (by decide) ?_
  obtain ⟨v1, h9_1, h⟩ := bnd1_inv h
  refine K.callS0 (q := 7) mkX8_in mw_X8_56 (s_X8_in _ _ _ _ h9_1) rfl (by decide) rfl (Nat.le_of_ble_eq_true rfl) (Nat.le_of_ble_eq_true rfl) (Nat.le_of_ble_eq_true rfl) dX8_isAmount_4 rfl ?_
  obtain e_vo := ret1_inv h
  exact C.iret rfl (bool_in h9_1) (congrArg (fun z => Sum.inl (some (Value.int z))) e_vo.symm) rfl (Nat.le_of_ble_eq_true rfl) (Nat.le_of_ble_eq_true rfl) dX8_isAmount_7

def m_X8_isLoan (X : GS) (loan : Int32) : Option (Int32) := (bnd1 (m_X8_in loan 0 (((X.2.2.1 5) 64) - 1)) fun (v1 : Int32) => (some v1))
set_option maxRecDepth 20000 in
set_option maxHeartbeats 1000000 in
theorem s_X8_isLoan (X : GS) (loan : Int32) {vo : Int32} (h : m_X8_isLoan X loan = some vo) : Ct 2 0 0 yX8_isLoan (.code yX8_isLoan cX8_isLoan 2 (some (.boolean))) [.ref 131, .int loan] (mkH X) (.inl (some (.int vo))) (mkH X) := by
  refine Ct.of (LL := [some (.ref 131), some (.int loan)]) mkX8_isLoan.1 owX8_isLoan rfl (Nat.le_of_ble_eq_true rfl) rfl (fun Wk C => ?_)
  have K := C.core
  rw [m_X8_isLoan] at h
  refine K.iload_n (q := 1) dX8_isLoan_0 rfl rfl ?_
  refine K.iconst (q := 2) (v := 0) dX8_isLoan_1 rfl (by decide) ?_
  refine K.aload_n (q := 3) dX8_isLoan_2 rfl rfl ?_
  refine K.getf (q := 6) (v := .ref 132) fo_X8_7.r rx131 (lt141 (by decide)) rfl dX8_isLoan_3 rfl ?_
  refine K.bipush (q := 8) (v := 64) dX8_isLoan_6 rfl (by decide) ?_
  refine K.ial (q := 9) (f := (X.2.2.1 5)) (m := 64) rx132 (lt141 (by decide)) rfl (by decide) (by decide) dX8_isLoan_8 rfl ?_
  refine K.iconst (q := 10) (v := 1) dX8_isLoan_9 rfl (by decide) ?_
  refine K.isub (q := 11) dX8_isLoan_10 rfl ?_
  obtain ⟨v1, h9_1, h⟩ := bnd1_inv h
  refine K.callS0 (q := 14) mkX8_in mw_X8_56 (s_X8_in _ _ _ _ h9_1) rfl (by decide) rfl (Nat.le_of_ble_eq_true rfl) (Nat.le_of_ble_eq_true rfl) (Nat.le_of_ble_eq_true rfl) dX8_isLoan_11 rfl ?_
  obtain e_vo := ret1_inv h
  exact C.iret rfl (bool_in h9_1) (congrArg (fun z => Sum.inl (some (Value.int z))) e_vo.symm) rfl (Nat.le_of_ble_eq_true rfl) (Nat.le_of_ble_eq_true rfl) dX8_isLoan_14

def lp_X8_need_2 (amount : Int32) : Nat → Int32 → Option (Int32)
  | 0, _ => none
  | j2 + 1, a1_2 => (if amount ≤ a1_2 then (some a1_2) else (lp_X8_need_2 amount j2 (a1_2 * 2)))

def m_X8_need (amount : Int32) : Option (Int32) := (bnd1 (lp_X8_need_2 amount 1000 1) fun (a1_2_2 : Int32) => (some a1_2_2))
set_option maxRecDepth 20000 in
set_option maxHeartbeats 1000000 in
theorem s_X8_need (X : GS) (amount : Int32) {vo : Int32} (h : m_X8_need amount = some vo) : Ct 1 0 0 yX8_need (.code yX8_need cX8_need 2 (some (.int))) [.int amount] (mkH X) (.inl (some (.int vo))) (mkH X) := by
  refine Ct.of (LL := [some (.int amount), none]) mkX8_need.1 owX8_need rfl (Nat.le_of_ble_eq_true rfl) rfl (fun Wk C => ?_)
  have K := C.core
  rw [m_X8_need] at h
  refine K.iconst (q := 1) (v := 1) dX8_need_0 rfl (by decide) ?_
  refine K.istore_n (q := 2) (i := 1) dX8_need_1 rfl rfl (by decide) rfl ?_
  have L2 : ∀ (j2 : Nat) (a1_2 : Int32) (a1_2r : Int32), lp_X8_need_2 amount j2 a1_2 = some a1_2r → (Wk 0 0 14 [some (.int amount), some (.int a1_2r)] [] (mkH X)) → Wk 0 0 2 [some (.int amount), some (.int a1_2)] [] (mkH X) := by
    intro j2
    induction j2 with
    | zero =>
      intro a1_2 a1_2r h hx
      rw [lp_X8_need_2] at h
      cases h
    | succ j2 ih =>
      intro a1_2 a1_2r h hx
      rw [lp_X8_need_2] at h
      refine K.iload_n (q := 3) dX8_need_2 rfl rfl ?_
      refine K.iload_n (q := 4) dX8_need_3 rfl rfl ?_
      refine K.icmp_ge (q := 7) (tgt := 14) dX8_need_4 rfl (by decide) (fun c_4_1 => ?_) (fun c_4_1 => ?_)
      · rw [if_pos c_4_1] at h
        obtain q0 := ret1_inv h
        subst q0
        exact hx
      · rw [if_neg c_4_1] at h
        refine K.iload_n (q := 8) dX8_need_7 rfl rfl ?_
        refine K.iconst (q := 9) (v := 2) dX8_need_8 rfl (by decide) ?_
        refine K.imul (q := 10) dX8_need_9 rfl ?_
        refine K.istore_n (q := 11) (i := 1) dX8_need_10 rfl rfl (by decide) rfl ?_
        refine K.goto (tgt := 2) dX8_need_11 (by decide) ?_
        exact ih (a1_2 * 2) _ h hx
  obtain ⟨a1_2_2, h9_2, h⟩ := bnd1_inv h
  refine L2 1000 1 _ h9_2 ?_
  refine K.iload_n (q := 15) dX8_need_14 rfl rfl ?_
  obtain e_vo := ret1_inv h
  exact C.iret rfl rfl (congrArg (fun z => Sum.inl (some (Value.int z))) e_vo.symm) rfl (Nat.le_of_ble_eq_true rfl) (Nat.le_of_ble_eq_true rfl) dX8_need_15

def lp_X8_loanAt_2 (X : GS) (unit : Int32) : Nat → Nat → Option (Option Int32)
  | 0, _ => some none
  | j2 + 1, i2 => (if (97 + i2) < 129 then (if ((X.2.2.1 5) ((97 + i2))) = unit then (some (some (nI i2))) else (lp_X8_loanAt_2 X unit j2 (i2 + 1))) else none)

def m_X8_loanAt (X : GS) (unit : Int32) : Option (Int32) := (bnd1 (lp_X8_loanAt_2 X unit ((((X.2.2.1 5) 64)).toNatClampNeg) 0) fun (ee2_5 : Option Int32) => (elseE ee2_5 (fun v => some v) (some (-1))))
set_option maxRecDepth 20000 in
set_option maxHeartbeats 1000000 in
theorem s_X8_loanAt (X : GS) (unit : Int32) {vo : Int32} (h : m_X8_loanAt X unit = some vo) : Ct 1 0 0 yX8_loanAt (.code yX8_loanAt cX8_loanAt 3 (some (.int))) [.ref 131, .int unit] (mkH X) (.inl (some (.int vo))) (mkH X) := by
  refine Ct.of (LL := [some (.ref 131), some (.int unit), none]) mkX8_loanAt.1 owX8_loanAt rfl (Nat.le_of_ble_eq_true rfl) rfl (fun Wk C => ?_)
  have K := C.core
  rw [m_X8_loanAt] at h
  refine K.iconst (q := 1) (v := 0) dX8_loanAt_0 rfl (by decide) ?_
  refine K.istore_n (q := 2) (i := 2) dX8_loanAt_1 rfl rfl (by decide) rfl ?_
  have L2 : ∀ (j2 i2 : Nat) (ee2 : Option Int32), i2 + j2 = ((((X.2.2.1 5) 64)).toNatClampNeg) → lp_X8_loanAt_2 X unit j2 i2 = some ee2 → (ee2 = none → Wk 0 0 34 [some (.ref 131), some (.int unit), none] [] (mkH X)) → (∀ v : Int32, ee2 = some v → v = vo) → Wk 0 0 2 [some (.ref 131), some (.int unit), some (.int (nI i2))] [] (mkH X) := by
    intro j2
    induction j2 with
    | zero =>
      intro i2 ee2 hij h hx hr
      rw [lp_X8_loanAt_2] at h
      refine K.iload_n (q := 3) dX8_loanAt_2 rfl rfl ?_
      refine K.aload_n (q := 4) dX8_loanAt_3 rfl rfl ?_
      refine K.getf (q := 7) (v := .ref 132) fo_X8_7.r rx131 (lt141 (by decide)) rfl dX8_loanAt_4 rfl ?_
      refine K.bipush (q := 9) (v := 64) dX8_loanAt_7 rfl (by decide) ?_
      refine K.ial (q := 10) (f := (X.2.2.1 5)) (m := 64) rx132 (lt141 (by decide)) rfl (by decide) (by decide) dX8_loanAt_9 rfl ?_
      refine K.icmp_ge (q := 13) (tgt := 34) dX8_loanAt_10 rfl (by decide) (fun _ => ?_) (fun z => absurd z (not_not_intro (cl_ge (B := ((X.2.2.1 5) 64)) (by omega))))
      refine K.drop 2 ?_
      obtain q0 := ret1_inv h
      subst q0
      exact hx rfl
    | succ j2 ih =>
      intro i2 ee2 hij h hx hr
      rw [lp_X8_loanAt_2] at h
      refine K.iload_n (q := 3) dX8_loanAt_2 rfl rfl ?_
      refine K.aload_n (q := 4) dX8_loanAt_3 rfl rfl ?_
      refine K.getf (q := 7) (v := .ref 132) fo_X8_7.r rx131 (lt141 (by decide)) rfl dX8_loanAt_4 rfl ?_
      refine K.bipush (q := 9) (v := 64) dX8_loanAt_7 rfl (by decide) ?_
      refine K.ial (q := 10) (f := (X.2.2.1 5)) (m := 64) rx132 (lt141 (by decide)) rfl (by decide) (by decide) dX8_loanAt_9 rfl ?_
      refine K.icmp_ge (q := 13) (tgt := 34) dX8_loanAt_10 rfl (by decide) (fun z => absurd z (cl_nge (B := ((X.2.2.1 5) 64)) (by omega))) (fun _ => ?_)
      refine K.aload_n (q := 14) dX8_loanAt_13 rfl rfl ?_
      refine K.getf (q := 17) (v := .ref 132) fo_X8_7.r rx131 (lt141 (by decide)) rfl dX8_loanAt_14 rfl ?_
      refine K.bipush (q := 19) (v := 97) dX8_loanAt_17 rfl (by decide) ?_
      refine K.iload_n (q := 20) dX8_loanAt_19 rfl rfl ?_
      refine K.iaddE (q := 21) (z := (nI (97 + i2))) (nI_add 97 i2) dX8_loanAt_20 rfl ?_
      obtain ⟨k_3, h⟩ := chk_inv h
      refine K.ial (q := 22) (f := (X.2.2.1 5)) (m := ((97 + i2))) rx132 (lt141 (by decide)) rfl k_3 (by decide) dX8_loanAt_21 rfl ?_
      refine K.iload_n (q := 23) dX8_loanAt_22 rfl rfl ?_
      refine K.icmp_ne (q := 26) (tgt := 28) dX8_loanAt_23 rfl (by decide) (fun c_23_4 => ?_) (fun c_23_4 => ?_)
      · rw [if_neg c_23_4] at h
        refine K.iinc (q := 31) (v := (nI (i2 + 1))) dX8_loanAt_28 rfl rfl (nI_1 _) (by decide) rfl ?_
        refine K.goto (tgt := 2) dX8_loanAt_31 (by decide) ?_
        exact ih (i2 + 1)  _ (by omega) h hx hr
      · rw [if_pos c_23_4] at h
        refine K.iload_n (q := 27) dX8_loanAt_26 rfl rfl ?_
        obtain rfl := ret1_inv h
        obtain e_vo := hr _ rfl
        exact C.iret rfl rfl (congrArg (fun z => Sum.inl (some (Value.int z))) e_vo.symm) rfl (Nat.le_of_ble_eq_true rfl) (Nat.le_of_ble_eq_true rfl) dX8_loanAt_27
  obtain ⟨ee2_5, h9_5, h⟩ := bnd1_inv h
  refine L2 ((((X.2.2.1 5) 64)).toNatClampNeg) 0 _ (by omega) h9_5 (fun z_5 => ?_) (fun v hv => ?_)
  · replace h := elseE_none z_5 h
    refine K.iconst (q := 35) (v := (-1)) dX8_loanAt_34 rfl (by decide) ?_
    obtain e_vo := ret1_inv h
    exact C.iret rfl rfl (congrArg (fun z => Sum.inl (some (Value.int z))) e_vo.symm) rfl (Nat.le_of_ble_eq_true rfl) (Nat.le_of_ble_eq_true rfl) dX8_loanAt_35
  · have h8 := elseE_some hv h
    exact ret1_inv h8

def m_X8_isFreeAt (X : GS) (unit : Int32) : Option (Int32) := (if inR unit 129 then (if ((X.2.2.1 5) (unit.toNatClampNeg)) ≤ 0 then (some 0) else (bnd1 (m_X8_loanAt X unit) fun (v3 : Int32) => (if v3 = (-1) then (some 1) else (some 0)))) else none)
set_option maxRecDepth 20000 in
set_option maxHeartbeats 1000000 in
theorem s_X8_isFreeAt (X : GS) (unit : Int32) {vo : Int32} (h : m_X8_isFreeAt X unit = some vo) : Ct 2 0 0 yX8_isFreeAt (.code yX8_isFreeAt cX8_isFreeAt 2 (some (.boolean))) [.ref 131, .int unit] (mkH X) (.inl (some (.int vo))) (mkH X) := by
  refine Ct.of (LL := [some (.ref 131), some (.int unit)]) mkX8_isFreeAt.1 owX8_isFreeAt rfl (Nat.le_of_ble_eq_true rfl) rfl (fun Wk C => ?_)
  have K := C.core
  rw [m_X8_isFreeAt] at h
  refine K.aload_n (q := 1) dX8_isFreeAt_0 rfl rfl ?_
  refine K.getf (q := 4) (v := .ref 132) fo_X8_7.r rx131 (lt141 (by decide)) rfl dX8_isFreeAt_1 rfl ?_
  refine K.iload_n (q := 5) dX8_isFreeAt_4 rfl rfl ?_
  obtain ⟨k_1, h⟩ := chk_inv h
  refine K.ial (q := 6) (f := (X.2.2.1 5)) (m := (unit.toNatClampNeg)) rx132 (lt141 (by decide)) (cl_nI k_1.1) k_1.2 (by decide) dX8_isFreeAt_5 rfl ?_
  refine K.if_le (q := 9) (tgt := 22) dX8_isFreeAt_6 rfl (by decide) (fun c_6_2 => ?_) (fun c_6_2 => ?_)
  · rw [if_pos c_6_2] at h
    refine K.iconst (q := 23) (v := 0) dX8_isFreeAt_22 rfl (by decide) ?_
    obtain e_vo := ret1_inv h
    exact C.iret rfl rfl (congrArg (fun z => Sum.inl (some (Value.int z))) e_vo.symm) rfl (Nat.le_of_ble_eq_true rfl) (Nat.le_of_ble_eq_true rfl) dX8_isFreeAt_23
  · rw [if_neg c_6_2] at h
    refine K.aload_n (q := 10) dX8_isFreeAt_9 rfl rfl ?_
    refine K.iload_n (q := 11) dX8_isFreeAt_10 rfl rfl ?_
    obtain ⟨v3, h9_3, h⟩ := bnd1_inv h
    refine K.callV0 (q := 14) mkX8_loanAt mw_X8_60 (s_X8_loanAt _ _ h9_3) rfl (by decide) rfl (lt141 (by decide)) rx131 (Nat.le_of_ble_eq_true rfl) (Nat.le_of_ble_eq_true rfl) (Nat.le_of_ble_eq_true rfl) dX8_isFreeAt_11 rfl ?_
    refine K.iconst (q := 15) (v := (-1)) dX8_isFreeAt_14 rfl (by decide) ?_
    refine K.icmp_ne (q := 18) (tgt := 22) dX8_isFreeAt_15 rfl (by decide) (fun c_15_4 => ?_) (fun c_15_4 => ?_)
    · rw [if_neg c_15_4] at h
      refine K.iconst (q := 23) (v := 0) dX8_isFreeAt_22 rfl (by decide) ?_
      obtain e_vo := ret1_inv h
      exact C.iret rfl rfl (congrArg (fun z => Sum.inl (some (Value.int z))) e_vo.symm) rfl (Nat.le_of_ble_eq_true rfl) (Nat.le_of_ble_eq_true rfl) dX8_isFreeAt_23
    · rw [if_pos c_15_4] at h
      refine K.iconst (q := 19) (v := 1) dX8_isFreeAt_18 rfl (by decide) ?_
      refine K.goto (tgt := 23) dX8_isFreeAt_19 (by decide) ?_
      obtain e_vo := ret1_inv h
      exact C.iret rfl rfl (congrArg (fun z => Sum.inl (some (Value.int z))) e_vo.symm) rfl (Nat.le_of_ble_eq_true rfl) (Nat.le_of_ble_eq_true rfl) dX8_isFreeAt_23

def m_X8_isBetter (X : GS) (unit : Int32) (best : Int32) : Option (Int32) := (if best = (-1) then (some 1) else (if ((X.2.2.1 5) 126) = 2 then (if inR unit 129 then (if inR best 129 then (if ((X.2.2.1 5) (unit.toNatClampNeg)) ≤ ((X.2.2.1 5) (best.toNatClampNeg)) then (some 0) else (some 1)) else none) else none) else (if ((X.2.2.1 5) 126) = 1 then (if inR unit 129 then (if inR best 129 then (if ((X.2.2.1 5) (best.toNatClampNeg)) < ((X.2.2.1 5) (unit.toNatClampNeg)) then (some 0) else (some 1)) else none) else none) else (if inR unit 129 then (if inR best 129 then (if ((X.2.2.1 5) (best.toNatClampNeg)) ≤ ((X.2.2.1 5) (unit.toNatClampNeg)) then (some 0) else (some 1)) else none) else none))))
set_option maxRecDepth 20000 in
set_option maxHeartbeats 1000000 in
theorem s_X8_isBetter (X : GS) (unit : Int32) (best : Int32) {vo : Int32} (h : m_X8_isBetter X unit best = some vo) : Ct 1 0 0 yX8_isBetter (.code yX8_isBetter cX8_isBetter 3 (some (.boolean))) [.ref 131, .int unit, .int best] (mkH X) (.inl (some (.int vo))) (mkH X) := by
  refine Ct.of (LL := [some (.ref 131), some (.int unit), some (.int best)]) mkX8_isBetter.1 owX8_isBetter rfl (Nat.le_of_ble_eq_true rfl) rfl (fun Wk C => ?_)
  have K := C.core
  rw [m_X8_isBetter] at h
  refine K.iload_n (q := 1) dX8_isBetter_0 rfl rfl ?_
  refine K.iconst (q := 2) (v := (-1)) dX8_isBetter_1 rfl (by decide) ?_
  refine K.icmp_ne (q := 5) (tgt := 7) dX8_isBetter_2 rfl (by decide) (fun c_2_1 => ?_) (fun c_2_1 => ?_)
  · rw [if_neg c_2_1] at h
    refine K.aload_n (q := 8) dX8_isBetter_7 rfl rfl ?_
    refine K.getf (q := 11) (v := .ref 132) fo_X8_7.r rx131 (lt141 (by decide)) rfl dX8_isBetter_8 rfl ?_
    refine K.bipush (q := 13) (v := 126) dX8_isBetter_11 rfl (by decide) ?_
    refine K.ial (q := 14) (f := (X.2.2.1 5)) (m := 126) rx132 (lt141 (by decide)) rfl (by decide) (by decide) dX8_isBetter_13 rfl ?_
    refine K.iconst (q := 15) (v := 2) dX8_isBetter_14 rfl (by decide) ?_
    refine K.icmp_ne (q := 18) (tgt := 41) dX8_isBetter_15 rfl (by decide) (fun c_15_2 => ?_) (fun c_15_2 => ?_)
    · rw [if_neg c_15_2] at h
      refine K.aload_n (q := 42) dX8_isBetter_41 rfl rfl ?_
      refine K.getf (q := 45) (v := .ref 132) fo_X8_7.r rx131 (lt141 (by decide)) rfl dX8_isBetter_42 rfl ?_
      refine K.bipush (q := 47) (v := 126) dX8_isBetter_45 rfl (by decide) ?_
      refine K.ial (q := 48) (f := (X.2.2.1 5)) (m := 126) rx132 (lt141 (by decide)) rfl (by decide) (by decide) dX8_isBetter_47 rfl ?_
      refine K.iconst (q := 49) (v := 1) dX8_isBetter_48 rfl (by decide) ?_
      refine K.icmp_ne (q := 52) (tgt := 75) dX8_isBetter_49 rfl (by decide) (fun c_49_3 => ?_) (fun c_49_3 => ?_)
      · rw [if_neg c_49_3] at h
        refine K.aload_n (q := 76) dX8_isBetter_75 rfl rfl ?_
        refine K.getf (q := 79) (v := .ref 132) fo_X8_7.r rx131 (lt141 (by decide)) rfl dX8_isBetter_76 rfl ?_
        refine K.iload_n (q := 80) dX8_isBetter_79 rfl rfl ?_
        obtain ⟨k_4, h⟩ := chk_inv h
        refine K.ial (q := 81) (f := (X.2.2.1 5)) (m := (unit.toNatClampNeg)) rx132 (lt141 (by decide)) (cl_nI k_4.1) k_4.2 (by decide) dX8_isBetter_80 rfl ?_
        refine K.aload_n (q := 82) dX8_isBetter_81 rfl rfl ?_
        refine K.getf (q := 85) (v := .ref 132) fo_X8_7.r rx131 (lt141 (by decide)) rfl dX8_isBetter_82 rfl ?_
        refine K.iload_n (q := 86) dX8_isBetter_85 rfl rfl ?_
        obtain ⟨k_5, h⟩ := chk_inv h
        refine K.ial (q := 87) (f := (X.2.2.1 5)) (m := (best.toNatClampNeg)) rx132 (lt141 (by decide)) (cl_nI k_5.1) k_5.2 (by decide) dX8_isBetter_86 rfl ?_
        refine K.icmp_ge (q := 90) (tgt := 94) dX8_isBetter_87 rfl (by decide) (fun c_87_6 => ?_) (fun c_87_6 => ?_)
        · rw [if_pos c_87_6] at h
          refine K.iconst (q := 95) (v := 0) dX8_isBetter_94 rfl (by decide) ?_
          obtain e_vo := ret1_inv h
          exact C.iret rfl rfl (congrArg (fun z => Sum.inl (some (Value.int z))) e_vo.symm) rfl (Nat.le_of_ble_eq_true rfl) (Nat.le_of_ble_eq_true rfl) dX8_isBetter_95
        · rw [if_neg c_87_6] at h
          refine K.iconst (q := 91) (v := 1) dX8_isBetter_90 rfl (by decide) ?_
          refine K.goto (tgt := 95) dX8_isBetter_91 (by decide) ?_
          obtain e_vo := ret1_inv h
          exact C.iret rfl rfl (congrArg (fun z => Sum.inl (some (Value.int z))) e_vo.symm) rfl (Nat.le_of_ble_eq_true rfl) (Nat.le_of_ble_eq_true rfl) dX8_isBetter_95
      · rw [if_pos c_49_3] at h
        refine K.aload_n (q := 53) dX8_isBetter_52 rfl rfl ?_
        refine K.getf (q := 56) (v := .ref 132) fo_X8_7.r rx131 (lt141 (by decide)) rfl dX8_isBetter_53 rfl ?_
        refine K.iload_n (q := 57) dX8_isBetter_56 rfl rfl ?_
        obtain ⟨k_7, h⟩ := chk_inv h
        refine K.ial (q := 58) (f := (X.2.2.1 5)) (m := (unit.toNatClampNeg)) rx132 (lt141 (by decide)) (cl_nI k_7.1) k_7.2 (by decide) dX8_isBetter_57 rfl ?_
        refine K.aload_n (q := 59) dX8_isBetter_58 rfl rfl ?_
        refine K.getf (q := 62) (v := .ref 132) fo_X8_7.r rx131 (lt141 (by decide)) rfl dX8_isBetter_59 rfl ?_
        refine K.iload_n (q := 63) dX8_isBetter_62 rfl rfl ?_
        obtain ⟨k_8, h⟩ := chk_inv h
        refine K.ial (q := 64) (f := (X.2.2.1 5)) (m := (best.toNatClampNeg)) rx132 (lt141 (by decide)) (cl_nI k_8.1) k_8.2 (by decide) dX8_isBetter_63 rfl ?_
        refine K.icmp_gt (q := 67) (tgt := 71) dX8_isBetter_64 rfl (by decide) (fun c_64_9 => ?_) (fun c_64_9 => ?_)
        · rw [if_pos c_64_9] at h
          refine K.iconst (q := 72) (v := 0) dX8_isBetter_71 rfl (by decide) ?_
          refine K.goto (tgt := 95) dX8_isBetter_72 (by decide) ?_
          obtain e_vo := ret1_inv h
          exact C.iret rfl rfl (congrArg (fun z => Sum.inl (some (Value.int z))) e_vo.symm) rfl (Nat.le_of_ble_eq_true rfl) (Nat.le_of_ble_eq_true rfl) dX8_isBetter_95
        · rw [if_neg c_64_9] at h
          refine K.iconst (q := 68) (v := 1) dX8_isBetter_67 rfl (by decide) ?_
          refine K.goto (tgt := 95) dX8_isBetter_68 (by decide) ?_
          obtain e_vo := ret1_inv h
          exact C.iret rfl rfl (congrArg (fun z => Sum.inl (some (Value.int z))) e_vo.symm) rfl (Nat.le_of_ble_eq_true rfl) (Nat.le_of_ble_eq_true rfl) dX8_isBetter_95
    · rw [if_pos c_15_2] at h
      refine K.aload_n (q := 19) dX8_isBetter_18 rfl rfl ?_
      refine K.getf (q := 22) (v := .ref 132) fo_X8_7.r rx131 (lt141 (by decide)) rfl dX8_isBetter_19 rfl ?_
      refine K.iload_n (q := 23) dX8_isBetter_22 rfl rfl ?_
      obtain ⟨k_10, h⟩ := chk_inv h
      refine K.ial (q := 24) (f := (X.2.2.1 5)) (m := (unit.toNatClampNeg)) rx132 (lt141 (by decide)) (cl_nI k_10.1) k_10.2 (by decide) dX8_isBetter_23 rfl ?_
      refine K.aload_n (q := 25) dX8_isBetter_24 rfl rfl ?_
      refine K.getf (q := 28) (v := .ref 132) fo_X8_7.r rx131 (lt141 (by decide)) rfl dX8_isBetter_25 rfl ?_
      refine K.iload_n (q := 29) dX8_isBetter_28 rfl rfl ?_
      obtain ⟨k_11, h⟩ := chk_inv h
      refine K.ial (q := 30) (f := (X.2.2.1 5)) (m := (best.toNatClampNeg)) rx132 (lt141 (by decide)) (cl_nI k_11.1) k_11.2 (by decide) dX8_isBetter_29 rfl ?_
      refine K.icmp_le (q := 33) (tgt := 37) dX8_isBetter_30 rfl (by decide) (fun c_30_12 => ?_) (fun c_30_12 => ?_)
      · rw [if_pos c_30_12] at h
        refine K.iconst (q := 38) (v := 0) dX8_isBetter_37 rfl (by decide) ?_
        refine K.goto (tgt := 95) dX8_isBetter_38 (by decide) ?_
        obtain e_vo := ret1_inv h
        exact C.iret rfl rfl (congrArg (fun z => Sum.inl (some (Value.int z))) e_vo.symm) rfl (Nat.le_of_ble_eq_true rfl) (Nat.le_of_ble_eq_true rfl) dX8_isBetter_95
      · rw [if_neg c_30_12] at h
        refine K.iconst (q := 34) (v := 1) dX8_isBetter_33 rfl (by decide) ?_
        refine K.goto (tgt := 95) dX8_isBetter_34 (by decide) ?_
        obtain e_vo := ret1_inv h
        exact C.iret rfl rfl (congrArg (fun z => Sum.inl (some (Value.int z))) e_vo.symm) rfl (Nat.le_of_ble_eq_true rfl) (Nat.le_of_ble_eq_true rfl) dX8_isBetter_95
  · rw [if_pos c_2_1] at h
    refine K.iconst (q := 6) (v := 1) dX8_isBetter_5 rfl (by decide) ?_
    obtain e_vo := ret1_inv h
    exact C.iret rfl rfl (congrArg (fun z => Sum.inl (some (Value.int z))) e_vo.symm) rfl (Nat.le_of_ble_eq_true rfl) (Nat.le_of_ble_eq_true rfl) dX8_isBetter_6

def lp_X8_finds_4 (X : GS) (need : Int32) : Nat → Nat → Int32 → Option (Int32)
  | 0, _, a2_4 => some a2_4
  | j4 + 1, i4, a2_4 => (bnd1 (m_X8_isFreeAt X (nI i4)) fun (v3 : Int32) => (if v3 = 0 then (lp_X8_finds_4 X need j4 (i4 + 1) a2_4) else (if ((X.2.2.1 5) i4) < need then (lp_X8_finds_4 X need j4 (i4 + 1) a2_4) else (bnd1 (m_X8_isBetter X (nI i4) a2_4) fun (v6 : Int32) => (if v6 = 0 then (lp_X8_finds_4 X need j4 (i4 + 1) a2_4) else (lp_X8_finds_4 X need j4 (i4 + 1) (nI i4)))))))

def m_X8_finds (X : GS) (need : Int32) : Option (Int32) := (bnd1 (lp_X8_finds_4 X need 64 0 (-1)) fun (a2_4_8 : Int32) => (some a2_4_8))
set_option maxRecDepth 20000 in
set_option maxHeartbeats 1000000 in
theorem s_X8_finds (X : GS) (need : Int32) {vo : Int32} (h : m_X8_finds X need = some vo) : Ct 3 0 0 yX8_finds (.code yX8_finds cX8_finds 4 (some (.int))) [.ref 131, .int need] (mkH X) (.inl (some (.int vo))) (mkH X) := by
  refine Ct.of (LL := [some (.ref 131), some (.int need), none, none]) mkX8_finds.1 owX8_finds rfl (Nat.le_of_ble_eq_true rfl) rfl (fun Wk C => ?_)
  have K := C.core
  rw [m_X8_finds] at h
  refine K.iconst (q := 1) (v := (-1)) dX8_finds_0 rfl (by decide) ?_
  refine K.istore_n (q := 2) (i := 2) dX8_finds_1 rfl rfl (by decide) rfl ?_
  refine K.iconst (q := 3) (v := 0) dX8_finds_2 rfl (by decide) ?_
  refine K.istore_n (q := 4) (i := 3) dX8_finds_3 rfl rfl (by decide) rfl ?_
  have L4 : ∀ (j4 i4 : Nat) (a2_4 : Int32) (a2_4r : Int32), i4 + j4 = 64 → lp_X8_finds_4 X need j4 i4 a2_4 = some a2_4r → (Wk 0 0 45 [some (.ref 131), some (.int need), some (.int a2_4r), none] [] (mkH X)) → Wk 0 0 4 [some (.ref 131), some (.int need), some (.int a2_4), some (.int (nI i4))] [] (mkH X) := by
    intro j4
    induction j4 with
    | zero =>
      intro i4 a2_4 a2_4r hij h hx
      rw [lp_X8_finds_4] at h
      refine K.iload_n (q := 5) dX8_finds_4 rfl rfl ?_
      refine K.bipush (q := 7) (v := 64) dX8_finds_5 rfl (by decide) ?_
      refine K.icmp_ge (q := 10) (tgt := 45) dX8_finds_7 rfl (by decide) (fun _ => ?_) (fun z => absurd z (not_not_intro (nI_le (a := 64) (b := i4) (by omega) (by omega))))
      refine K.drop 3 ?_
      obtain q0 := ret1_inv h
      subst q0
      exact hx
    | succ j4 ih =>
      intro i4 a2_4 a2_4r hij h hx
      rw [lp_X8_finds_4] at h
      refine K.iload_n (q := 5) dX8_finds_4 rfl rfl ?_
      refine K.bipush (q := 7) (v := 64) dX8_finds_5 rfl (by decide) ?_
      refine K.icmp_ge (q := 10) (tgt := 45) dX8_finds_7 rfl (by decide) (fun z => absurd z (nI_ge (a := i4) (b := 64) (by omega) (by omega))) (fun _ => ?_)
      refine K.aload_n (q := 11) dX8_finds_10 rfl rfl ?_
      refine K.iload_n (q := 12) dX8_finds_11 rfl rfl ?_
      obtain ⟨v3, h9_3, h⟩ := bnd1_inv h
      refine K.callV0 (q := 15) mkX8_isFreeAt mw_X8_64 (s_X8_isFreeAt _ _ h9_3) rfl (by decide) rfl (lt141 (by decide)) rx131 (Nat.le_of_ble_eq_true rfl) (Nat.le_of_ble_eq_true rfl) (Nat.le_of_ble_eq_true rfl) dX8_finds_12 rfl ?_
      refine K.if_eq (q := 18) (tgt := 39) dX8_finds_15 rfl (by decide) (fun c_15_4 => ?_) (fun c_15_4 => ?_)
      · rw [if_pos c_15_4] at h
        refine K.iinc (q := 42) (v := (nI (i4 + 1))) dX8_finds_39 rfl rfl (nI_1 _) (by decide) rfl ?_
        refine K.goto (tgt := 4) dX8_finds_42 (by decide) ?_
        exact ih (i4 + 1) a2_4 _ (by omega) h hx
      · rw [if_neg c_15_4] at h
        refine K.aload_n (q := 19) dX8_finds_18 rfl rfl ?_
        refine K.getf (q := 22) (v := .ref 132) fo_X8_7.r rx131 (lt141 (by decide)) rfl dX8_finds_19 rfl ?_
        refine K.iload_n (q := 23) dX8_finds_22 rfl rfl ?_
        refine K.ial (q := 24) (f := (X.2.2.1 5)) (m := i4) rx132 (lt141 (by decide)) rfl (by omega) (by decide) dX8_finds_23 rfl ?_
        refine K.iload_n (q := 25) dX8_finds_24 rfl rfl ?_
        refine K.icmp_lt (q := 28) (tgt := 39) dX8_finds_25 rfl (by decide) (fun c_25_5 => ?_) (fun c_25_5 => ?_)
        · rw [if_pos c_25_5] at h
          refine K.iinc (q := 42) (v := (nI (i4 + 1))) dX8_finds_39 rfl rfl (nI_1 _) (by decide) rfl ?_
          refine K.goto (tgt := 4) dX8_finds_42 (by decide) ?_
          exact ih (i4 + 1) a2_4 _ (by omega) h hx
        · rw [if_neg c_25_5] at h
          refine K.aload_n (q := 29) dX8_finds_28 rfl rfl ?_
          refine K.iload_n (q := 30) dX8_finds_29 rfl rfl ?_
          refine K.iload_n (q := 31) dX8_finds_30 rfl rfl ?_
          obtain ⟨v6, h9_6, h⟩ := bnd1_inv h
          refine K.callV0 (q := 34) mkX8_isBetter mw_X8_68 (s_X8_isBetter _ _ _ h9_6) rfl (by decide) rfl (lt141 (by decide)) rx131 (Nat.le_of_ble_eq_true rfl) (Nat.le_of_ble_eq_true rfl) (Nat.le_of_ble_eq_true rfl) dX8_finds_31 rfl ?_
          refine K.if_eq (q := 37) (tgt := 39) dX8_finds_34 rfl (by decide) (fun c_34_7 => ?_) (fun c_34_7 => ?_)
          · rw [if_pos c_34_7] at h
            refine K.iinc (q := 42) (v := (nI (i4 + 1))) dX8_finds_39 rfl rfl (nI_1 _) (by decide) rfl ?_
            refine K.goto (tgt := 4) dX8_finds_42 (by decide) ?_
            exact ih (i4 + 1) a2_4 _ (by omega) h hx
          · rw [if_neg c_34_7] at h
            refine K.iload_n (q := 38) dX8_finds_37 rfl rfl ?_
            refine K.istore_n (q := 39) (i := 2) dX8_finds_38 rfl rfl (by decide) rfl ?_
            refine K.iinc (q := 42) (v := (nI (i4 + 1))) dX8_finds_39 rfl rfl (nI_1 _) (by decide) rfl ?_
            refine K.goto (tgt := 4) dX8_finds_42 (by decide) ?_
            exact ih (i4 + 1) (nI i4) _ (by omega) h hx
  obtain ⟨a2_4_8, h9_8, h⟩ := bnd1_inv h
  refine L4 64 0 (-1) _ (by omega) h9_8 ?_
  refine K.iload_n (q := 46) dX8_finds_45 rfl rfl ?_
  obtain e_vo := ret1_inv h
  exact C.iret rfl rfl (congrArg (fun z => Sum.inl (some (Value.int z))) e_vo.symm) rfl (Nat.le_of_ble_eq_true rfl) (Nat.le_of_ble_eq_true rfl) dX8_finds_46

def lp_X8_greatestFree_4 (X : GS) : Nat → Nat → Int32 → Option (Int32)
  | 0, _, a1_4 => some a1_4
  | j4 + 1, i4, a1_4 => (bnd1 (m_X8_isFreeAt X (nI i4)) fun (v3 : Int32) => (if v3 = 0 then (lp_X8_greatestFree_4 X j4 (i4 + 1) a1_4) else (if ((X.2.2.1 5) i4) ≤ a1_4 then (lp_X8_greatestFree_4 X j4 (i4 + 1) a1_4) else (lp_X8_greatestFree_4 X j4 (i4 + 1) ((X.2.2.1 5) i4)))))

def m_X8_greatestFree (X : GS) : Option (Int32) := (bnd1 (lp_X8_greatestFree_4 X 64 0 0) fun (a1_4_6 : Int32) => (some a1_4_6))
set_option maxRecDepth 20000 in
set_option maxHeartbeats 1000000 in
theorem s_X8_greatestFree (X : GS) {vo : Int32} (h : m_X8_greatestFree X = some vo) : Ct 3 0 0 yX8_greatestFree (.code yX8_greatestFree cX8_greatestFree 3 (some (.int))) [.ref 131] (mkH X) (.inl (some (.int vo))) (mkH X) := by
  refine Ct.of (LL := [some (.ref 131), none, none]) mkX8_greatestFree.1 owX8_greatestFree rfl (Nat.le_of_ble_eq_true rfl) rfl (fun Wk C => ?_)
  have K := C.core
  rw [m_X8_greatestFree] at h
  refine K.iconst (q := 1) (v := 0) dX8_greatestFree_0 rfl (by decide) ?_
  refine K.istore_n (q := 2) (i := 1) dX8_greatestFree_1 rfl rfl (by decide) rfl ?_
  refine K.iconst (q := 3) (v := 0) dX8_greatestFree_2 rfl (by decide) ?_
  refine K.istore_n (q := 4) (i := 2) dX8_greatestFree_3 rfl rfl (by decide) rfl ?_
  have L4 : ∀ (j4 i4 : Nat) (a1_4 : Int32) (a1_4r : Int32), i4 + j4 = 64 → lp_X8_greatestFree_4 X j4 i4 a1_4 = some a1_4r → (Wk 0 0 45 [some (.ref 131), some (.int a1_4r), none] [] (mkH X)) → Wk 0 0 4 [some (.ref 131), some (.int a1_4), some (.int (nI i4))] [] (mkH X) := by
    intro j4
    induction j4 with
    | zero =>
      intro i4 a1_4 a1_4r hij h hx
      rw [lp_X8_greatestFree_4] at h
      refine K.iload_n (q := 5) dX8_greatestFree_4 rfl rfl ?_
      refine K.bipush (q := 7) (v := 64) dX8_greatestFree_5 rfl (by decide) ?_
      refine K.icmp_ge (q := 10) (tgt := 45) dX8_greatestFree_7 rfl (by decide) (fun _ => ?_) (fun z => absurd z (not_not_intro (nI_le (a := 64) (b := i4) (by omega) (by omega))))
      refine K.drop 2 ?_
      obtain q0 := ret1_inv h
      subst q0
      exact hx
    | succ j4 ih =>
      intro i4 a1_4 a1_4r hij h hx
      rw [lp_X8_greatestFree_4] at h
      refine K.iload_n (q := 5) dX8_greatestFree_4 rfl rfl ?_
      refine K.bipush (q := 7) (v := 64) dX8_greatestFree_5 rfl (by decide) ?_
      refine K.icmp_ge (q := 10) (tgt := 45) dX8_greatestFree_7 rfl (by decide) (fun z => absurd z (nI_ge (a := i4) (b := 64) (by omega) (by omega))) (fun _ => ?_)
      refine K.aload_n (q := 11) dX8_greatestFree_10 rfl rfl ?_
      refine K.iload_n (q := 12) dX8_greatestFree_11 rfl rfl ?_
      obtain ⟨v3, h9_3, h⟩ := bnd1_inv h
      refine K.callV0 (q := 15) mkX8_isFreeAt mw_X8_64 (s_X8_isFreeAt _ _ h9_3) rfl (by decide) rfl (lt141 (by decide)) rx131 (Nat.le_of_ble_eq_true rfl) (Nat.le_of_ble_eq_true rfl) (Nat.le_of_ble_eq_true rfl) dX8_greatestFree_12 rfl ?_
      refine K.if_eq (q := 18) (tgt := 37) dX8_greatestFree_15 rfl (by decide) (fun c_15_4 => ?_) (fun c_15_4 => ?_)
      · rw [if_pos c_15_4] at h
        refine K.iload_n (q := 38) dX8_greatestFree_37 rfl rfl ?_
        refine K.istore_n (q := 39) (i := 1) dX8_greatestFree_38 rfl rfl (by decide) rfl ?_
        refine K.iinc (q := 42) (v := (nI (i4 + 1))) dX8_greatestFree_39 rfl rfl (nI_1 _) (by decide) rfl ?_
        refine K.goto (tgt := 4) dX8_greatestFree_42 (by decide) ?_
        exact ih (i4 + 1) a1_4 _ (by omega) h hx
      · rw [if_neg c_15_4] at h
        refine K.aload_n (q := 19) dX8_greatestFree_18 rfl rfl ?_
        refine K.getf (q := 22) (v := .ref 132) fo_X8_7.r rx131 (lt141 (by decide)) rfl dX8_greatestFree_19 rfl ?_
        refine K.iload_n (q := 23) dX8_greatestFree_22 rfl rfl ?_
        refine K.ial (q := 24) (f := (X.2.2.1 5)) (m := i4) rx132 (lt141 (by decide)) rfl (by omega) (by decide) dX8_greatestFree_23 rfl ?_
        refine K.iload_n (q := 25) dX8_greatestFree_24 rfl rfl ?_
        refine K.icmp_le (q := 28) (tgt := 37) dX8_greatestFree_25 rfl (by decide) (fun c_25_5 => ?_) (fun c_25_5 => ?_)
        · rw [if_pos c_25_5] at h
          refine K.iload_n (q := 38) dX8_greatestFree_37 rfl rfl ?_
          refine K.istore_n (q := 39) (i := 1) dX8_greatestFree_38 rfl rfl (by decide) rfl ?_
          refine K.iinc (q := 42) (v := (nI (i4 + 1))) dX8_greatestFree_39 rfl rfl (nI_1 _) (by decide) rfl ?_
          refine K.goto (tgt := 4) dX8_greatestFree_42 (by decide) ?_
          exact ih (i4 + 1) a1_4 _ (by omega) h hx
        · rw [if_neg c_25_5] at h
          refine K.aload_n (q := 29) dX8_greatestFree_28 rfl rfl ?_
          refine K.getf (q := 32) (v := .ref 132) fo_X8_7.r rx131 (lt141 (by decide)) rfl dX8_greatestFree_29 rfl ?_
          refine K.iload_n (q := 33) dX8_greatestFree_32 rfl rfl ?_
          refine K.ial (q := 34) (f := (X.2.2.1 5)) (m := i4) rx132 (lt141 (by decide)) rfl (by omega) (by decide) dX8_greatestFree_33 rfl ?_
          refine K.goto (tgt := 38) dX8_greatestFree_34 (by decide) ?_
          refine K.istore_n (q := 39) (i := 1) dX8_greatestFree_38 rfl rfl (by decide) rfl ?_
          refine K.iinc (q := 42) (v := (nI (i4 + 1))) dX8_greatestFree_39 rfl rfl (nI_1 _) (by decide) rfl ?_
          refine K.goto (tgt := 4) dX8_greatestFree_42 (by decide) ?_
          exact ih (i4 + 1) ((X.2.2.1 5) i4) _ (by omega) h hx
  obtain ⟨a1_4_6, h9_6, h⟩ := bnd1_inv h
  refine L4 64 0 0 _ (by omega) h9_6 ?_
  refine K.iload_n (q := 46) dX8_greatestFree_45 rfl rfl ?_
  obtain e_vo := ret1_inv h
  exact C.iret rfl rfl (congrArg (fun z => Sum.inl (some (Value.int z))) e_vo.symm) rfl (Nat.le_of_ble_eq_true rfl) (Nat.le_of_ble_eq_true rfl) dX8_greatestFree_46

def lp_X8_halves_2 (need : Int32) : Nat → Int32 → GS → Option (Int32 × GS)
  | 0, _, _ => none
  | j2 + 1, a3_2, XX2 => (if inR a3_2 129 then (if ((XX2.2.2.1 5) (a3_2.toNatClampNeg)) ≤ need then (some (a3_2, XX2)) else (if inR a3_2 129 then (if inR a3_2 129 then (if inR (a3_2 + (((XX2.2.2.1 5) (a3_2.toNatClampNeg)) / 2)) 129 then (if ((up (up (XX2.2.2.1 5) (a3_2.toNatClampNeg) (((XX2.2.2.1 5) (a3_2.toNatClampNeg)) / 2)) ((a3_2 + (((XX2.2.2.1 5) (a3_2.toNatClampNeg)) / 2)).toNatClampNeg) (((XX2.2.2.1 5) (a3_2.toNatClampNeg)) / 2)) 126) = 1 then (lp_X8_halves_2 need j2 (a3_2 + (((XX2.2.2.1 5) (a3_2.toNatClampNeg)) / 2)) (uA (uA (uA XX2 5 (up (XX2.2.2.1 5) (a3_2.toNatClampNeg) (((XX2.2.2.1 5) (a3_2.toNatClampNeg)) / 2))) 5 (up (up (XX2.2.2.1 5) (a3_2.toNatClampNeg) (((XX2.2.2.1 5) (a3_2.toNatClampNeg)) / 2)) ((a3_2 + (((XX2.2.2.1 5) (a3_2.toNatClampNeg)) / 2)).toNatClampNeg) (((XX2.2.2.1 5) (a3_2.toNatClampNeg)) / 2))) 5 (up (up (up (XX2.2.2.1 5) (a3_2.toNatClampNeg) (((XX2.2.2.1 5) (a3_2.toNatClampNeg)) / 2)) ((a3_2 + (((XX2.2.2.1 5) (a3_2.toNatClampNeg)) / 2)).toNatClampNeg) (((XX2.2.2.1 5) (a3_2.toNatClampNeg)) / 2)) 127 (((up (up (XX2.2.2.1 5) (a3_2.toNatClampNeg) (((XX2.2.2.1 5) (a3_2.toNatClampNeg)) / 2)) ((a3_2 + (((XX2.2.2.1 5) (a3_2.toNatClampNeg)) / 2)).toNatClampNeg) (((XX2.2.2.1 5) (a3_2.toNatClampNeg)) / 2)) 127) + 1)))) else (lp_X8_halves_2 need j2 a3_2 (uA (uA (uA XX2 5 (up (XX2.2.2.1 5) (a3_2.toNatClampNeg) (((XX2.2.2.1 5) (a3_2.toNatClampNeg)) / 2))) 5 (up (up (XX2.2.2.1 5) (a3_2.toNatClampNeg) (((XX2.2.2.1 5) (a3_2.toNatClampNeg)) / 2)) ((a3_2 + (((XX2.2.2.1 5) (a3_2.toNatClampNeg)) / 2)).toNatClampNeg) (((XX2.2.2.1 5) (a3_2.toNatClampNeg)) / 2))) 5 (up (up (up (XX2.2.2.1 5) (a3_2.toNatClampNeg) (((XX2.2.2.1 5) (a3_2.toNatClampNeg)) / 2)) ((a3_2 + (((XX2.2.2.1 5) (a3_2.toNatClampNeg)) / 2)).toNatClampNeg) (((XX2.2.2.1 5) (a3_2.toNatClampNeg)) / 2)) 127 (((up (up (XX2.2.2.1 5) (a3_2.toNatClampNeg) (((XX2.2.2.1 5) (a3_2.toNatClampNeg)) / 2)) ((a3_2 + (((XX2.2.2.1 5) (a3_2.toNatClampNeg)) / 2)).toNatClampNeg) (((XX2.2.2.1 5) (a3_2.toNatClampNeg)) / 2)) 127) + 1))))) else none) else none) else none)) else none)

def m_X8_halves (X : GS) (unit : Int32) (need : Int32) : Option (Int32 × GS) := (bnd2 (lp_X8_halves_2 need 1000 unit X) fun (a3_2_7 : Int32) (XX2_7 : GS) => (some (a3_2_7, XX2_7)))
set_option maxRecDepth 20000 in
set_option maxHeartbeats 1000000 in
theorem s_X8_halves (X : GS) (unit : Int32) (need : Int32) {vo : Int32} {Xo : GS} (h : m_X8_halves X unit need = some (vo, Xo)) : Ct 1 0 0 yX8_halves (.code yX8_halves cX8_halves 5 (some (.int))) [.ref 131, .int unit, .int need] (mkH X) (.inl (some (.int vo))) (mkH Xo) := by
  refine Ct.of (LL := [some (.ref 131), some (.int unit), some (.int need), none, none]) mkX8_halves.1 owX8_halves rfl (Nat.le_of_ble_eq_true rfl) rfl (fun Wk C => ?_)
  have K := C.core
  rw [m_X8_halves] at h
  refine K.iload_n (q := 1) dX8_halves_0 rfl rfl ?_
  refine K.istore_n (q := 2) (i := 3) dX8_halves_1 rfl rfl (by decide) rfl ?_
  have L2 : ∀ (j2 : Nat) (a3_2 : Int32) (XX2 : GS) (a3_2r : Int32) (XX2r : GS), lp_X8_halves_2 need j2 a3_2 XX2 = some (a3_2r, XX2r) → (Wk 0 0 75 [some (.ref 131), some (.int unit), some (.int need), some (.int a3_2r), none] [] (mkH XX2r)) → Wk 0 0 2 [some (.ref 131), some (.int unit), some (.int need), some (.int a3_2), none] [] (mkH XX2) := by
    intro j2
    induction j2 with
    | zero =>
      intro a3_2 XX2 a3_2r XX2r h hx
      rw [lp_X8_halves_2] at h
      cases h
    | succ j2 ih =>
      intro a3_2 XX2 a3_2r XX2r h hx
      rw [lp_X8_halves_2] at h
      refine K.aload_n (q := 3) dX8_halves_2 rfl rfl ?_
      refine K.getf (q := 6) (v := .ref 132) fo_X8_7.r rx131 (lt141 (by decide)) rfl dX8_halves_3 rfl ?_
      refine K.iload_n (q := 7) dX8_halves_6 rfl rfl ?_
      obtain ⟨k_1, h⟩ := chk_inv h
      refine K.ial (q := 8) (f := (XX2.2.2.1 5)) (m := (a3_2.toNatClampNeg)) rx132 (lt141 (by decide)) (cl_nI k_1.1) k_1.2 (by decide) dX8_halves_7 rfl ?_
      refine K.iload_n (q := 9) dX8_halves_8 rfl rfl ?_
      refine K.icmp_le (q := 12) (tgt := 75) dX8_halves_9 rfl (by decide) (fun c_9_2 => ?_) (fun c_9_2 => ?_)
      · rw [if_pos c_9_2] at h
        obtain ⟨q0, q1⟩ := ret2_inv h
        subst q0; subst q1
        exact hx
      · rw [if_neg c_9_2] at h
        refine K.aload_n (q := 13) dX8_halves_12 rfl rfl ?_
        refine K.getf (q := 16) (v := .ref 132) fo_X8_7.r rx131 (lt141 (by decide)) rfl dX8_halves_13 rfl ?_
        refine K.iload_n (q := 17) dX8_halves_16 rfl rfl ?_
        obtain ⟨k_3, h⟩ := chk_inv h
        refine K.ial (q := 18) (f := (XX2.2.2.1 5)) (m := (a3_2.toNatClampNeg)) rx132 (lt141 (by decide)) (cl_nI k_3.1) k_3.2 (by decide) dX8_halves_17 rfl ?_
        refine K.iconst (q := 19) (v := 2) dX8_halves_18 rfl (by decide) ?_
        refine K.idiv (q := 20) dX8_halves_19 rfl (by decide) ?_
        refine K.istore (q := 22) dX8_halves_20 rfl (by decide) rfl ?_
        refine K.aload_n (q := 23) dX8_halves_22 rfl rfl ?_
        refine K.getf (q := 26) (v := .ref 132) fo_X8_7.r rx131 (lt141 (by decide)) rfl dX8_halves_23 rfl ?_
        refine K.iload_n (q := 27) dX8_halves_26 rfl rfl ?_
        refine K.iload (q := 29) dX8_halves_27 rfl rfl ?_
        obtain ⟨k_4, h⟩ := chk_inv h
        refine K.ias (q := 30) (f := (XX2.2.2.1 5)) (m := (a3_2.toNatClampNeg)) rx132 (lt141 (by decide)) (cl_nI k_4.1) k_4.2 (by decide) pxa5 dX8_halves_29 rfl ?_
        refine K.aload_n (q := 31) dX8_halves_30 rfl rfl ?_
        refine K.getf (q := 34) (v := .ref 132) fo_X8_7.r rx131 (lt141 (by decide)) rfl dX8_halves_31 rfl ?_
        refine K.iload_n (q := 35) dX8_halves_34 rfl rfl ?_
        refine K.iload (q := 37) dX8_halves_35 rfl rfl ?_
        refine K.iadd (q := 38) dX8_halves_37 rfl ?_
        refine K.iload (q := 40) dX8_halves_38 rfl rfl ?_
        obtain ⟨k_5, h⟩ := chk_inv h
        refine K.ias (q := 41) (f := (up (XX2.2.2.1 5) (a3_2.toNatClampNeg) (((XX2.2.2.1 5) (a3_2.toNatClampNeg)) / 2))) (m := ((a3_2 + (((XX2.2.2.1 5) (a3_2.toNatClampNeg)) / 2)).toNatClampNeg)) rx132 (lt141 (by decide)) (cl_nI k_5.1) k_5.2 (by decide) pxa5 dX8_halves_40 rfl ?_
        refine K.aload_n (q := 42) dX8_halves_41 rfl rfl ?_
        refine K.getf (q := 45) (v := .ref 132) fo_X8_7.r rx131 (lt141 (by decide)) rfl dX8_halves_42 rfl ?_
        refine K.bipush (q := 47) (v := 126) dX8_halves_45 rfl (by decide) ?_
        refine K.ial (q := 48) (f := (up (up (XX2.2.2.1 5) (a3_2.toNatClampNeg) (((XX2.2.2.1 5) (a3_2.toNatClampNeg)) / 2)) ((a3_2 + (((XX2.2.2.1 5) (a3_2.toNatClampNeg)) / 2)).toNatClampNeg) (((XX2.2.2.1 5) (a3_2.toNatClampNeg)) / 2))) (m := 126) rx132 (lt141 (by decide)) rfl (by decide) (by decide) dX8_halves_47 rfl ?_
        refine K.iconst (q := 49) (v := 1) dX8_halves_48 rfl (by decide) ?_
        refine K.icmp_ne (q := 52) (tgt := 59) dX8_halves_49 rfl (by decide) (fun c_49_6 => ?_) (fun c_49_6 => ?_)
        · rw [if_neg c_49_6] at h
          refine K.iload_n (q := 60) dX8_halves_59 rfl rfl ?_
          refine K.istore_n (q := 61) (i := 3) dX8_halves_60 rfl rfl (by decide) rfl ?_
          refine K.aload_n (q := 62) dX8_halves_61 rfl rfl ?_
          refine K.getf (q := 65) (v := .ref 132) fo_X8_7.r rx131 (lt141 (by decide)) rfl dX8_halves_62 rfl ?_
          refine K.bipush (q := 67) (v := 127) dX8_halves_65 rfl (by decide) ?_
          refine K.dup2 (q := 68) dX8_halves_67 rfl rfl rfl ?_
          refine K.ial (q := 69) (f := (up (up (XX2.2.2.1 5) (a3_2.toNatClampNeg) (((XX2.2.2.1 5) (a3_2.toNatClampNeg)) / 2)) ((a3_2 + (((XX2.2.2.1 5) (a3_2.toNatClampNeg)) / 2)).toNatClampNeg) (((XX2.2.2.1 5) (a3_2.toNatClampNeg)) / 2))) (m := 127) rx132 (lt141 (by decide)) rfl (by decide) (by decide) dX8_halves_68 rfl ?_
          refine K.iconst (q := 70) (v := 1) dX8_halves_69 rfl (by decide) ?_
          refine K.iadd (q := 71) dX8_halves_70 rfl ?_
          refine K.ias (q := 72) (f := (up (up (XX2.2.2.1 5) (a3_2.toNatClampNeg) (((XX2.2.2.1 5) (a3_2.toNatClampNeg)) / 2)) ((a3_2 + (((XX2.2.2.1 5) (a3_2.toNatClampNeg)) / 2)).toNatClampNeg) (((XX2.2.2.1 5) (a3_2.toNatClampNeg)) / 2))) (m := 127) rx132 (lt141 (by decide)) rfl (by decide) (by decide) pxa5 dX8_halves_71 rfl ?_
          refine K.goto (tgt := 2) dX8_halves_72 (by decide) ?_
          refine K.drop 4 ?_
          exact ih a3_2 (uA (uA (uA XX2 5 (up (XX2.2.2.1 5) (a3_2.toNatClampNeg) (((XX2.2.2.1 5) (a3_2.toNatClampNeg)) / 2))) 5 (up (up (XX2.2.2.1 5) (a3_2.toNatClampNeg) (((XX2.2.2.1 5) (a3_2.toNatClampNeg)) / 2)) ((a3_2 + (((XX2.2.2.1 5) (a3_2.toNatClampNeg)) / 2)).toNatClampNeg) (((XX2.2.2.1 5) (a3_2.toNatClampNeg)) / 2))) 5 (up (up (up (XX2.2.2.1 5) (a3_2.toNatClampNeg) (((XX2.2.2.1 5) (a3_2.toNatClampNeg)) / 2)) ((a3_2 + (((XX2.2.2.1 5) (a3_2.toNatClampNeg)) / 2)).toNatClampNeg) (((XX2.2.2.1 5) (a3_2.toNatClampNeg)) / 2)) 127 (((up (up (XX2.2.2.1 5) (a3_2.toNatClampNeg) (((XX2.2.2.1 5) (a3_2.toNatClampNeg)) / 2)) ((a3_2 + (((XX2.2.2.1 5) (a3_2.toNatClampNeg)) / 2)).toNatClampNeg) (((XX2.2.2.1 5) (a3_2.toNatClampNeg)) / 2)) 127) + 1))) _ _ h hx
        · rw [if_pos c_49_6] at h
          refine K.iload_n (q := 53) dX8_halves_52 rfl rfl ?_
          refine K.iload (q := 55) dX8_halves_53 rfl rfl ?_
          refine K.iadd (q := 56) dX8_halves_55 rfl ?_
          refine K.goto (tgt := 60) dX8_halves_56 (by decide) ?_
          refine K.istore_n (q := 61) (i := 3) dX8_halves_60 rfl rfl (by decide) rfl ?_
          refine K.aload_n (q := 62) dX8_halves_61 rfl rfl ?_
          refine K.getf (q := 65) (v := .ref 132) fo_X8_7.r rx131 (lt141 (by decide)) rfl dX8_halves_62 rfl ?_
          refine K.bipush (q := 67) (v := 127) dX8_halves_65 rfl (by decide) ?_
          refine K.dup2 (q := 68) dX8_halves_67 rfl rfl rfl ?_
          refine K.ial (q := 69) (f := (up (up (XX2.2.2.1 5) (a3_2.toNatClampNeg) (((XX2.2.2.1 5) (a3_2.toNatClampNeg)) / 2)) ((a3_2 + (((XX2.2.2.1 5) (a3_2.toNatClampNeg)) / 2)).toNatClampNeg) (((XX2.2.2.1 5) (a3_2.toNatClampNeg)) / 2))) (m := 127) rx132 (lt141 (by decide)) rfl (by decide) (by decide) dX8_halves_68 rfl ?_
          refine K.iconst (q := 70) (v := 1) dX8_halves_69 rfl (by decide) ?_
          refine K.iadd (q := 71) dX8_halves_70 rfl ?_
          refine K.ias (q := 72) (f := (up (up (XX2.2.2.1 5) (a3_2.toNatClampNeg) (((XX2.2.2.1 5) (a3_2.toNatClampNeg)) / 2)) ((a3_2 + (((XX2.2.2.1 5) (a3_2.toNatClampNeg)) / 2)).toNatClampNeg) (((XX2.2.2.1 5) (a3_2.toNatClampNeg)) / 2))) (m := 127) rx132 (lt141 (by decide)) rfl (by decide) (by decide) pxa5 dX8_halves_71 rfl ?_
          refine K.goto (tgt := 2) dX8_halves_72 (by decide) ?_
          refine K.drop 4 ?_
          exact ih (a3_2 + (((XX2.2.2.1 5) (a3_2.toNatClampNeg)) / 2)) (uA (uA (uA XX2 5 (up (XX2.2.2.1 5) (a3_2.toNatClampNeg) (((XX2.2.2.1 5) (a3_2.toNatClampNeg)) / 2))) 5 (up (up (XX2.2.2.1 5) (a3_2.toNatClampNeg) (((XX2.2.2.1 5) (a3_2.toNatClampNeg)) / 2)) ((a3_2 + (((XX2.2.2.1 5) (a3_2.toNatClampNeg)) / 2)).toNatClampNeg) (((XX2.2.2.1 5) (a3_2.toNatClampNeg)) / 2))) 5 (up (up (up (XX2.2.2.1 5) (a3_2.toNatClampNeg) (((XX2.2.2.1 5) (a3_2.toNatClampNeg)) / 2)) ((a3_2 + (((XX2.2.2.1 5) (a3_2.toNatClampNeg)) / 2)).toNatClampNeg) (((XX2.2.2.1 5) (a3_2.toNatClampNeg)) / 2)) 127 (((up (up (XX2.2.2.1 5) (a3_2.toNatClampNeg) (((XX2.2.2.1 5) (a3_2.toNatClampNeg)) / 2)) ((a3_2 + (((XX2.2.2.1 5) (a3_2.toNatClampNeg)) / 2)).toNatClampNeg) (((XX2.2.2.1 5) (a3_2.toNatClampNeg)) / 2)) 127) + 1))) _ _ h hx
  obtain ⟨a3_2_7, XX2_7, h9_7, h⟩ := bnd2_inv h
  refine L2 1000 unit X _ _ h9_7 ?_
  refine K.iload_n (q := 76) dX8_halves_75 rfl rfl ?_
  obtain ⟨e_vo, e_Xo⟩ := ret2_inv h
  exact C.iret rfl rfl (congrArg (fun z => Sum.inl (some (Value.int z))) e_vo.symm) (congrArg mkH e_Xo) (Nat.le_of_ble_eq_true rfl) (Nat.le_of_ble_eq_true rfl) dX8_halves_76

def lp_X8_joins_2 : Nat → Int32 → GS → Option (Int32 × GS)
  | 0, _, _ => none
  | j2 + 1, a2_2, XX2 => (if inR a2_2 129 then (if 64 ≤ ((XX2.2.2.1 5) (a2_2.toNatClampNeg)) then (some (a2_2, XX2)) else (if inR a2_2 129 then (if inR (a2_2 ^^^ ((XX2.2.2.1 5) (a2_2.toNatClampNeg))) 129 then (if inR a2_2 129 then (if ((XX2.2.2.1 5) ((a2_2 ^^^ ((XX2.2.2.1 5) (a2_2.toNatClampNeg))).toNatClampNeg)) = ((XX2.2.2.1 5) (a2_2.toNatClampNeg)) then (if inR a2_2 129 then (bnd1 (m_X8_loanAt XX2 (a2_2 ^^^ ((XX2.2.2.1 5) (a2_2.toNatClampNeg)))) fun (v8 : Int32) => (if v8 = (-1) then (if inR a2_2 129 then (if (a2_2 ^^^ ((XX2.2.2.1 5) (a2_2.toNatClampNeg))) ≤ a2_2 then (if inR a2_2 129 then (if inR a2_2 129 then (if inR (a2_2 ^^^ ((XX2.2.2.1 5) (a2_2.toNatClampNeg))) 129 then (if inR (a2_2 ^^^ ((XX2.2.2.1 5) (a2_2.toNatClampNeg))) 129 then (lp_X8_joins_2 j2 (a2_2 ^^^ ((XX2.2.2.1 5) (a2_2.toNatClampNeg))) (uA (uA (uA (uA XX2 5 (up (XX2.2.2.1 5) (a2_2.toNatClampNeg) 0)) 5 (up (up (XX2.2.2.1 5) (a2_2.toNatClampNeg) 0) ((a2_2 ^^^ ((XX2.2.2.1 5) (a2_2.toNatClampNeg))).toNatClampNeg) 0)) 5 (up (up (up (XX2.2.2.1 5) (a2_2.toNatClampNeg) 0) ((a2_2 ^^^ ((XX2.2.2.1 5) (a2_2.toNatClampNeg))).toNatClampNeg) 0) ((a2_2 ^^^ ((XX2.2.2.1 5) (a2_2.toNatClampNeg))).toNatClampNeg) (2 * ((XX2.2.2.1 5) (a2_2.toNatClampNeg))))) 5 (up (up (up (up (XX2.2.2.1 5) (a2_2.toNatClampNeg) 0) ((a2_2 ^^^ ((XX2.2.2.1 5) (a2_2.toNatClampNeg))).toNatClampNeg) 0) ((a2_2 ^^^ ((XX2.2.2.1 5) (a2_2.toNatClampNeg))).toNatClampNeg) (2 * ((XX2.2.2.1 5) (a2_2.toNatClampNeg)))) 128 (((up (up (up (XX2.2.2.1 5) (a2_2.toNatClampNeg) 0) ((a2_2 ^^^ ((XX2.2.2.1 5) (a2_2.toNatClampNeg))).toNatClampNeg) 0) ((a2_2 ^^^ ((XX2.2.2.1 5) (a2_2.toNatClampNeg))).toNatClampNeg) (2 * ((XX2.2.2.1 5) (a2_2.toNatClampNeg)))) 128) + 1)))) else none) else none) else none) else none) else (if inR a2_2 129 then (if inR a2_2 129 then (if inR (a2_2 ^^^ ((XX2.2.2.1 5) (a2_2.toNatClampNeg))) 129 then (if inR a2_2 129 then (lp_X8_joins_2 j2 a2_2 (uA (uA (uA (uA XX2 5 (up (XX2.2.2.1 5) (a2_2.toNatClampNeg) 0)) 5 (up (up (XX2.2.2.1 5) (a2_2.toNatClampNeg) 0) ((a2_2 ^^^ ((XX2.2.2.1 5) (a2_2.toNatClampNeg))).toNatClampNeg) 0)) 5 (up (up (up (XX2.2.2.1 5) (a2_2.toNatClampNeg) 0) ((a2_2 ^^^ ((XX2.2.2.1 5) (a2_2.toNatClampNeg))).toNatClampNeg) 0) (a2_2.toNatClampNeg) (2 * ((XX2.2.2.1 5) (a2_2.toNatClampNeg))))) 5 (up (up (up (up (XX2.2.2.1 5) (a2_2.toNatClampNeg) 0) ((a2_2 ^^^ ((XX2.2.2.1 5) (a2_2.toNatClampNeg))).toNatClampNeg) 0) (a2_2.toNatClampNeg) (2 * ((XX2.2.2.1 5) (a2_2.toNatClampNeg)))) 128 (((up (up (up (XX2.2.2.1 5) (a2_2.toNatClampNeg) 0) ((a2_2 ^^^ ((XX2.2.2.1 5) (a2_2.toNatClampNeg))).toNatClampNeg) 0) (a2_2.toNatClampNeg) (2 * ((XX2.2.2.1 5) (a2_2.toNatClampNeg)))) 128) + 1)))) else none) else none) else none) else none)) else none) else (some (a2_2, XX2)))) else none) else (some (a2_2, XX2))) else none) else none) else none)) else none)

def m_X8_joins (X : GS) (unit : Int32) : Option (GS) := (bnd2 (lp_X8_joins_2 1000 unit X) fun (a2_2_20 : Int32) (XX2_20 : GS) => (some XX2_20))
set_option maxRecDepth 20000 in
set_option maxHeartbeats 1000000 in
theorem s_X8_joins (X : GS) (unit : Int32) {Xo : GS} (h : m_X8_joins X unit = some Xo) : Ct 2 0 0 yX8_joins (.code yX8_joins cX8_joins 6 none) [.ref 131, .int unit] (mkH X) (.inl none) (mkH Xo) := by
  refine Ct.of (LL := [some (.ref 131), some (.int unit), none, none, none, none]) mkX8_joins.1 owX8_joins rfl (Nat.le_of_ble_eq_true rfl) rfl (fun Wk C => ?_)
  have K := C.core
  rw [m_X8_joins] at h
  refine K.iload_n (q := 1) dX8_joins_0 rfl rfl ?_
  refine K.istore_n (q := 2) (i := 2) dX8_joins_1 rfl rfl (by decide) rfl ?_
  have L2 : ∀ (j2 : Nat) (a2_2 : Int32) (XX2 : GS) (a2_2r : Int32) (XX2r : GS), lp_X8_joins_2 j2 a2_2 XX2 = some (a2_2r, XX2r) → (Wk 0 0 123 [some (.ref 131), some (.int unit), some (.int a2_2r), none, none, none] [] (mkH XX2r)) → Wk 0 0 2 [some (.ref 131), some (.int unit), some (.int a2_2), none, none, none] [] (mkH XX2) := by
    intro j2
    induction j2 with
    | zero =>
      intro a2_2 XX2 a2_2r XX2r h hx
      rw [lp_X8_joins_2] at h
      cases h
    | succ j2 ih =>
      intro a2_2 XX2 a2_2r XX2r h hx
      rw [lp_X8_joins_2] at h
      refine K.aload_n (q := 3) dX8_joins_2 rfl rfl ?_
      refine K.getf (q := 6) (v := .ref 132) fo_X8_7.r rx131 (lt141 (by decide)) rfl dX8_joins_3 rfl ?_
      refine K.iload_n (q := 7) dX8_joins_6 rfl rfl ?_
      obtain ⟨k_1, h⟩ := chk_inv h
      refine K.ial (q := 8) (f := (XX2.2.2.1 5)) (m := (a2_2.toNatClampNeg)) rx132 (lt141 (by decide)) (cl_nI k_1.1) k_1.2 (by decide) dX8_joins_7 rfl ?_
      refine K.bipush (q := 10) (v := 64) dX8_joins_8 rfl (by decide) ?_
      refine K.icmp_ge (q := 13) (tgt := 123) dX8_joins_10 rfl (by decide) (fun c_10_2 => ?_) (fun c_10_2 => ?_)
      · rw [if_pos c_10_2] at h
        obtain ⟨q0, q1⟩ := ret2_inv h
        subst q0; subst q1
        exact hx
      · rw [if_neg c_10_2] at h
        refine K.aload_n (q := 14) dX8_joins_13 rfl rfl ?_
        refine K.getf (q := 17) (v := .ref 132) fo_X8_7.r rx131 (lt141 (by decide)) rfl dX8_joins_14 rfl ?_
        refine K.iload_n (q := 18) dX8_joins_17 rfl rfl ?_
        refine K.aload_n (q := 19) dX8_joins_18 rfl rfl ?_
        refine K.getf (q := 22) (v := .ref 132) fo_X8_7.r rx131 (lt141 (by decide)) rfl dX8_joins_19 rfl ?_
        refine K.iload_n (q := 23) dX8_joins_22 rfl rfl ?_
        obtain ⟨k_3, h⟩ := chk_inv h
        refine K.ial (q := 24) (f := (XX2.2.2.1 5)) (m := (a2_2.toNatClampNeg)) rx132 (lt141 (by decide)) (cl_nI k_3.1) k_3.2 (by decide) dX8_joins_23 rfl ?_
        refine K.ixor (q := 25) dX8_joins_24 rfl ?_
        obtain ⟨k_4, h⟩ := chk_inv h
        refine K.ial (q := 26) (f := (XX2.2.2.1 5)) (m := ((a2_2 ^^^ ((XX2.2.2.1 5) (a2_2.toNatClampNeg))).toNatClampNeg)) rx132 (lt141 (by decide)) (cl_nI k_4.1) k_4.2 (by decide) dX8_joins_25 rfl ?_
        refine K.aload_n (q := 27) dX8_joins_26 rfl rfl ?_
        refine K.getf (q := 30) (v := .ref 132) fo_X8_7.r rx131 (lt141 (by decide)) rfl dX8_joins_27 rfl ?_
        refine K.iload_n (q := 31) dX8_joins_30 rfl rfl ?_
        obtain ⟨k_5, h⟩ := chk_inv h
        refine K.ial (q := 32) (f := (XX2.2.2.1 5)) (m := (a2_2.toNatClampNeg)) rx132 (lt141 (by decide)) (cl_nI k_5.1) k_5.2 (by decide) dX8_joins_31 rfl ?_
        refine K.icmp_ne (q := 35) (tgt := 123) dX8_joins_32 rfl (by decide) (fun c_32_6 => ?_) (fun c_32_6 => ?_)
        · rw [if_neg c_32_6] at h
          obtain ⟨q0, q1⟩ := ret2_inv h
          subst q0; subst q1
          exact hx
        · rw [if_pos c_32_6] at h
          refine K.aload_n (q := 36) dX8_joins_35 rfl rfl ?_
          refine K.iload_n (q := 37) dX8_joins_36 rfl rfl ?_
          refine K.aload_n (q := 38) dX8_joins_37 rfl rfl ?_
          refine K.getf (q := 41) (v := .ref 132) fo_X8_7.r rx131 (lt141 (by decide)) rfl dX8_joins_38 rfl ?_
          refine K.iload_n (q := 42) dX8_joins_41 rfl rfl ?_
          obtain ⟨k_7, h⟩ := chk_inv h
          refine K.ial (q := 43) (f := (XX2.2.2.1 5)) (m := (a2_2.toNatClampNeg)) rx132 (lt141 (by decide)) (cl_nI k_7.1) k_7.2 (by decide) dX8_joins_42 rfl ?_
          refine K.ixor (q := 44) dX8_joins_43 rfl ?_
          obtain ⟨v8, h9_8, h⟩ := bnd1_inv h
          refine K.callV0 (q := 47) mkX8_loanAt mw_X8_60 (s_X8_loanAt _ _ h9_8) rfl (by decide) rfl (lt141 (by decide)) rx131 (Nat.le_of_ble_eq_true rfl) (Nat.le_of_ble_eq_true rfl) (Nat.le_of_ble_eq_true rfl) dX8_joins_44 rfl ?_
          refine K.iconst (q := 48) (v := (-1)) dX8_joins_47 rfl (by decide) ?_
          refine K.icmp_ne (q := 51) (tgt := 123) dX8_joins_48 rfl (by decide) (fun c_48_9 => ?_) (fun c_48_9 => ?_)
          · rw [if_neg c_48_9] at h
            obtain ⟨q0, q1⟩ := ret2_inv h
            subst q0; subst q1
            exact hx
          · rw [if_pos c_48_9] at h
            refine K.iload_n (q := 52) dX8_joins_51 rfl rfl ?_
            refine K.aload_n (q := 53) dX8_joins_52 rfl rfl ?_
            refine K.getf (q := 56) (v := .ref 132) fo_X8_7.r rx131 (lt141 (by decide)) rfl dX8_joins_53 rfl ?_
            refine K.iload_n (q := 57) dX8_joins_56 rfl rfl ?_
            obtain ⟨k_10, h⟩ := chk_inv h
            refine K.ial (q := 58) (f := (XX2.2.2.1 5)) (m := (a2_2.toNatClampNeg)) rx132 (lt141 (by decide)) (cl_nI k_10.1) k_10.2 (by decide) dX8_joins_57 rfl ?_
            refine K.ixor (q := 59) dX8_joins_58 rfl ?_
            refine K.istore_n (q := 60) (i := 3) dX8_joins_59 rfl rfl (by decide) rfl ?_
            refine K.iload_n (q := 61) dX8_joins_60 rfl rfl ?_
            refine K.iload_n (q := 62) dX8_joins_61 rfl rfl ?_
            refine K.icmp_ge (q := 65) (tgt := 69) dX8_joins_62 rfl (by decide) (fun c_62_11 => ?_) (fun c_62_11 => ?_)
            · rw [if_pos c_62_11] at h
              refine K.iload_n (q := 70) dX8_joins_69 rfl rfl ?_
              refine K.istore (q := 72) dX8_joins_70 rfl (by decide) rfl ?_
              refine K.iconst (q := 73) (v := 2) dX8_joins_72 rfl (by decide) ?_
              refine K.aload_n (q := 74) dX8_joins_73 rfl rfl ?_
              refine K.getf (q := 77) (v := .ref 132) fo_X8_7.r rx131 (lt141 (by decide)) rfl dX8_joins_74 rfl ?_
              refine K.iload_n (q := 78) dX8_joins_77 rfl rfl ?_
              obtain ⟨k_12, h⟩ := chk_inv h
              refine K.ial (q := 79) (f := (XX2.2.2.1 5)) (m := (a2_2.toNatClampNeg)) rx132 (lt141 (by decide)) (cl_nI k_12.1) k_12.2 (by decide) dX8_joins_78 rfl ?_
              refine K.imul (q := 80) dX8_joins_79 rfl ?_
              refine K.istore (q := 82) dX8_joins_80 rfl (by decide) rfl ?_
              refine K.aload_n (q := 83) dX8_joins_82 rfl rfl ?_
              refine K.getf (q := 86) (v := .ref 132) fo_X8_7.r rx131 (lt141 (by decide)) rfl dX8_joins_83 rfl ?_
              refine K.iload_n (q := 87) dX8_joins_86 rfl rfl ?_
              refine K.iconst (q := 88) (v := 0) dX8_joins_87 rfl (by decide) ?_
              obtain ⟨k_13, h⟩ := chk_inv h
              refine K.ias (q := 89) (f := (XX2.2.2.1 5)) (m := (a2_2.toNatClampNeg)) rx132 (lt141 (by decide)) (cl_nI k_13.1) k_13.2 (by decide) pxa5 dX8_joins_88 rfl ?_
              refine K.aload_n (q := 90) dX8_joins_89 rfl rfl ?_
              refine K.getf (q := 93) (v := .ref 132) fo_X8_7.r rx131 (lt141 (by decide)) rfl dX8_joins_90 rfl ?_
              refine K.iload_n (q := 94) dX8_joins_93 rfl rfl ?_
              refine K.iconst (q := 95) (v := 0) dX8_joins_94 rfl (by decide) ?_
              obtain ⟨k_14, h⟩ := chk_inv h
              refine K.ias (q := 96) (f := (up (XX2.2.2.1 5) (a2_2.toNatClampNeg) 0)) (m := ((a2_2 ^^^ ((XX2.2.2.1 5) (a2_2.toNatClampNeg))).toNatClampNeg)) rx132 (lt141 (by decide)) (cl_nI k_14.1) k_14.2 (by decide) pxa5 dX8_joins_95 rfl ?_
              refine K.aload_n (q := 97) dX8_joins_96 rfl rfl ?_
              refine K.getf (q := 100) (v := .ref 132) fo_X8_7.r rx131 (lt141 (by decide)) rfl dX8_joins_97 rfl ?_
              refine K.iload (q := 102) dX8_joins_100 rfl rfl ?_
              refine K.iload (q := 104) dX8_joins_102 rfl rfl ?_
              obtain ⟨k_15, h⟩ := chk_inv h
              refine K.ias (q := 105) (f := (up (up (XX2.2.2.1 5) (a2_2.toNatClampNeg) 0) ((a2_2 ^^^ ((XX2.2.2.1 5) (a2_2.toNatClampNeg))).toNatClampNeg) 0)) (m := ((a2_2 ^^^ ((XX2.2.2.1 5) (a2_2.toNatClampNeg))).toNatClampNeg)) rx132 (lt141 (by decide)) (cl_nI k_15.1) k_15.2 (by decide) pxa5 dX8_joins_104 rfl ?_
              refine K.iload (q := 107) dX8_joins_105 rfl rfl ?_
              refine K.istore_n (q := 108) (i := 2) dX8_joins_107 rfl rfl (by decide) rfl ?_
              refine K.aload_n (q := 109) dX8_joins_108 rfl rfl ?_
              refine K.getf (q := 112) (v := .ref 132) fo_X8_7.r rx131 (lt141 (by decide)) rfl dX8_joins_109 rfl ?_
              refine K.sipush (q := 115) (v := 128) dX8_joins_112 rfl (by decide) ?_
              refine K.dup2 (q := 116) dX8_joins_115 rfl rfl rfl ?_
              refine K.ial (q := 117) (f := (up (up (up (XX2.2.2.1 5) (a2_2.toNatClampNeg) 0) ((a2_2 ^^^ ((XX2.2.2.1 5) (a2_2.toNatClampNeg))).toNatClampNeg) 0) ((a2_2 ^^^ ((XX2.2.2.1 5) (a2_2.toNatClampNeg))).toNatClampNeg) (2 * ((XX2.2.2.1 5) (a2_2.toNatClampNeg))))) (m := 128) rx132 (lt141 (by decide)) rfl (by decide) (by decide) dX8_joins_116 rfl ?_
              refine K.iconst (q := 118) (v := 1) dX8_joins_117 rfl (by decide) ?_
              refine K.iadd (q := 119) dX8_joins_118 rfl ?_
              refine K.ias (q := 120) (f := (up (up (up (XX2.2.2.1 5) (a2_2.toNatClampNeg) 0) ((a2_2 ^^^ ((XX2.2.2.1 5) (a2_2.toNatClampNeg))).toNatClampNeg) 0) ((a2_2 ^^^ ((XX2.2.2.1 5) (a2_2.toNatClampNeg))).toNatClampNeg) (2 * ((XX2.2.2.1 5) (a2_2.toNatClampNeg))))) (m := 128) rx132 (lt141 (by decide)) rfl (by decide) (by decide) pxa5 dX8_joins_119 rfl ?_
              refine K.goto (tgt := 2) dX8_joins_120 (by decide) ?_
              refine K.drop 3 ?_
              refine K.drop 4 ?_
              refine K.drop 5 ?_
              exact ih (a2_2 ^^^ ((XX2.2.2.1 5) (a2_2.toNatClampNeg))) (uA (uA (uA (uA XX2 5 (up (XX2.2.2.1 5) (a2_2.toNatClampNeg) 0)) 5 (up (up (XX2.2.2.1 5) (a2_2.toNatClampNeg) 0) ((a2_2 ^^^ ((XX2.2.2.1 5) (a2_2.toNatClampNeg))).toNatClampNeg) 0)) 5 (up (up (up (XX2.2.2.1 5) (a2_2.toNatClampNeg) 0) ((a2_2 ^^^ ((XX2.2.2.1 5) (a2_2.toNatClampNeg))).toNatClampNeg) 0) ((a2_2 ^^^ ((XX2.2.2.1 5) (a2_2.toNatClampNeg))).toNatClampNeg) (2 * ((XX2.2.2.1 5) (a2_2.toNatClampNeg))))) 5 (up (up (up (up (XX2.2.2.1 5) (a2_2.toNatClampNeg) 0) ((a2_2 ^^^ ((XX2.2.2.1 5) (a2_2.toNatClampNeg))).toNatClampNeg) 0) ((a2_2 ^^^ ((XX2.2.2.1 5) (a2_2.toNatClampNeg))).toNatClampNeg) (2 * ((XX2.2.2.1 5) (a2_2.toNatClampNeg)))) 128 (((up (up (up (XX2.2.2.1 5) (a2_2.toNatClampNeg) 0) ((a2_2 ^^^ ((XX2.2.2.1 5) (a2_2.toNatClampNeg))).toNatClampNeg) 0) ((a2_2 ^^^ ((XX2.2.2.1 5) (a2_2.toNatClampNeg))).toNatClampNeg) (2 * ((XX2.2.2.1 5) (a2_2.toNatClampNeg)))) 128) + 1))) _ _ h hx
            · rw [if_neg c_62_11] at h
              refine K.iload_n (q := 66) dX8_joins_65 rfl rfl ?_
              refine K.goto (tgt := 70) dX8_joins_66 (by decide) ?_
              refine K.istore (q := 72) dX8_joins_70 rfl (by decide) rfl ?_
              refine K.iconst (q := 73) (v := 2) dX8_joins_72 rfl (by decide) ?_
              refine K.aload_n (q := 74) dX8_joins_73 rfl rfl ?_
              refine K.getf (q := 77) (v := .ref 132) fo_X8_7.r rx131 (lt141 (by decide)) rfl dX8_joins_74 rfl ?_
              refine K.iload_n (q := 78) dX8_joins_77 rfl rfl ?_
              obtain ⟨k_16, h⟩ := chk_inv h
              refine K.ial (q := 79) (f := (XX2.2.2.1 5)) (m := (a2_2.toNatClampNeg)) rx132 (lt141 (by decide)) (cl_nI k_16.1) k_16.2 (by decide) dX8_joins_78 rfl ?_
              refine K.imul (q := 80) dX8_joins_79 rfl ?_
              refine K.istore (q := 82) dX8_joins_80 rfl (by decide) rfl ?_
              refine K.aload_n (q := 83) dX8_joins_82 rfl rfl ?_
              refine K.getf (q := 86) (v := .ref 132) fo_X8_7.r rx131 (lt141 (by decide)) rfl dX8_joins_83 rfl ?_
              refine K.iload_n (q := 87) dX8_joins_86 rfl rfl ?_
              refine K.iconst (q := 88) (v := 0) dX8_joins_87 rfl (by decide) ?_
              obtain ⟨k_17, h⟩ := chk_inv h
              refine K.ias (q := 89) (f := (XX2.2.2.1 5)) (m := (a2_2.toNatClampNeg)) rx132 (lt141 (by decide)) (cl_nI k_17.1) k_17.2 (by decide) pxa5 dX8_joins_88 rfl ?_
              refine K.aload_n (q := 90) dX8_joins_89 rfl rfl ?_
              refine K.getf (q := 93) (v := .ref 132) fo_X8_7.r rx131 (lt141 (by decide)) rfl dX8_joins_90 rfl ?_
              refine K.iload_n (q := 94) dX8_joins_93 rfl rfl ?_
              refine K.iconst (q := 95) (v := 0) dX8_joins_94 rfl (by decide) ?_
              obtain ⟨k_18, h⟩ := chk_inv h
              refine K.ias (q := 96) (f := (up (XX2.2.2.1 5) (a2_2.toNatClampNeg) 0)) (m := ((a2_2 ^^^ ((XX2.2.2.1 5) (a2_2.toNatClampNeg))).toNatClampNeg)) rx132 (lt141 (by decide)) (cl_nI k_18.1) k_18.2 (by decide) pxa5 dX8_joins_95 rfl ?_
              refine K.aload_n (q := 97) dX8_joins_96 rfl rfl ?_
              refine K.getf (q := 100) (v := .ref 132) fo_X8_7.r rx131 (lt141 (by decide)) rfl dX8_joins_97 rfl ?_
              refine K.iload (q := 102) dX8_joins_100 rfl rfl ?_
              refine K.iload (q := 104) dX8_joins_102 rfl rfl ?_
              obtain ⟨k_19, h⟩ := chk_inv h
              refine K.ias (q := 105) (f := (up (up (XX2.2.2.1 5) (a2_2.toNatClampNeg) 0) ((a2_2 ^^^ ((XX2.2.2.1 5) (a2_2.toNatClampNeg))).toNatClampNeg) 0)) (m := (a2_2.toNatClampNeg)) rx132 (lt141 (by decide)) (cl_nI k_19.1) k_19.2 (by decide) pxa5 dX8_joins_104 rfl ?_
              refine K.iload (q := 107) dX8_joins_105 rfl rfl ?_
              refine K.istore_n (q := 108) (i := 2) dX8_joins_107 rfl rfl (by decide) rfl ?_
              refine K.aload_n (q := 109) dX8_joins_108 rfl rfl ?_
              refine K.getf (q := 112) (v := .ref 132) fo_X8_7.r rx131 (lt141 (by decide)) rfl dX8_joins_109 rfl ?_
              refine K.sipush (q := 115) (v := 128) dX8_joins_112 rfl (by decide) ?_
              refine K.dup2 (q := 116) dX8_joins_115 rfl rfl rfl ?_
              refine K.ial (q := 117) (f := (up (up (up (XX2.2.2.1 5) (a2_2.toNatClampNeg) 0) ((a2_2 ^^^ ((XX2.2.2.1 5) (a2_2.toNatClampNeg))).toNatClampNeg) 0) (a2_2.toNatClampNeg) (2 * ((XX2.2.2.1 5) (a2_2.toNatClampNeg))))) (m := 128) rx132 (lt141 (by decide)) rfl (by decide) (by decide) dX8_joins_116 rfl ?_
              refine K.iconst (q := 118) (v := 1) dX8_joins_117 rfl (by decide) ?_
              refine K.iadd (q := 119) dX8_joins_118 rfl ?_
              refine K.ias (q := 120) (f := (up (up (up (XX2.2.2.1 5) (a2_2.toNatClampNeg) 0) ((a2_2 ^^^ ((XX2.2.2.1 5) (a2_2.toNatClampNeg))).toNatClampNeg) 0) (a2_2.toNatClampNeg) (2 * ((XX2.2.2.1 5) (a2_2.toNatClampNeg))))) (m := 128) rx132 (lt141 (by decide)) rfl (by decide) (by decide) pxa5 dX8_joins_119 rfl ?_
              refine K.goto (tgt := 2) dX8_joins_120 (by decide) ?_
              refine K.drop 3 ?_
              refine K.drop 4 ?_
              refine K.drop 5 ?_
              exact ih a2_2 (uA (uA (uA (uA XX2 5 (up (XX2.2.2.1 5) (a2_2.toNatClampNeg) 0)) 5 (up (up (XX2.2.2.1 5) (a2_2.toNatClampNeg) 0) ((a2_2 ^^^ ((XX2.2.2.1 5) (a2_2.toNatClampNeg))).toNatClampNeg) 0)) 5 (up (up (up (XX2.2.2.1 5) (a2_2.toNatClampNeg) 0) ((a2_2 ^^^ ((XX2.2.2.1 5) (a2_2.toNatClampNeg))).toNatClampNeg) 0) (a2_2.toNatClampNeg) (2 * ((XX2.2.2.1 5) (a2_2.toNatClampNeg))))) 5 (up (up (up (up (XX2.2.2.1 5) (a2_2.toNatClampNeg) 0) ((a2_2 ^^^ ((XX2.2.2.1 5) (a2_2.toNatClampNeg))).toNatClampNeg) 0) (a2_2.toNatClampNeg) (2 * ((XX2.2.2.1 5) (a2_2.toNatClampNeg)))) 128 (((up (up (up (XX2.2.2.1 5) (a2_2.toNatClampNeg) 0) ((a2_2 ^^^ ((XX2.2.2.1 5) (a2_2.toNatClampNeg))).toNatClampNeg) 0) (a2_2.toNatClampNeg) (2 * ((XX2.2.2.1 5) (a2_2.toNatClampNeg)))) 128) + 1))) _ _ h hx
  obtain ⟨a2_2_20, XX2_20, h9_20, h⟩ := bnd2_inv h
  refine L2 1000 unit X _ _ h9_20 ?_
  obtain e_Xo := ret1_inv h
  exact C.vret rfl rfl (congrArg mkH e_Xo) (Nat.le_of_ble_eq_true rfl) (Nat.le_of_ble_eq_true rfl) dX8_joins_123

def m_X8_canLend (X : GS) (amount : Int32) : Option (Int32) := (if 16 ≤ ((X.2.2.1 5) 64) then (some 0) else (bnd1 (m_X8_need amount) fun (v2 : Int32) => (bnd1 (m_X8_finds X v2) fun (v3 : Int32) => (if v3 = (-1) then (some 0) else (some 1)))))
set_option maxRecDepth 20000 in
set_option maxHeartbeats 1000000 in
theorem s_X8_canLend (X : GS) (amount : Int32) {vo : Int32} (h : m_X8_canLend X amount = some vo) : Ct 4 0 0 yX8_canLend (.code yX8_canLend cX8_canLend 2 (some (.boolean))) [.ref 131, .int amount] (mkH X) (.inl (some (.int vo))) (mkH X) := by
  refine Ct.of (LL := [some (.ref 131), some (.int amount)]) mkX8_canLend.1 owX8_canLend rfl (Nat.le_of_ble_eq_true rfl) rfl (fun Wk C => ?_)
  have K := C.core
  rw [m_X8_canLend] at h
  refine K.aload_n (q := 1) dX8_canLend_0 rfl rfl ?_
  refine K.getf (q := 4) (v := .ref 132) fo_X8_7.r rx131 (lt141 (by decide)) rfl dX8_canLend_1 rfl ?_
  refine K.bipush (q := 6) (v := 64) dX8_canLend_4 rfl (by decide) ?_
  refine K.ial (q := 7) (f := (X.2.2.1 5)) (m := 64) rx132 (lt141 (by decide)) rfl (by decide) (by decide) dX8_canLend_6 rfl ?_
  refine K.bipush (q := 9) (v := 16) dX8_canLend_7 rfl (by decide) ?_
  refine K.icmp_ge (q := 12) (tgt := 28) dX8_canLend_9 rfl (by decide) (fun c_9_1 => ?_) (fun c_9_1 => ?_)
  · rw [if_pos c_9_1] at h
    refine K.iconst (q := 29) (v := 0) dX8_canLend_28 rfl (by decide) ?_
    obtain e_vo := ret1_inv h
    exact C.iret rfl rfl (congrArg (fun z => Sum.inl (some (Value.int z))) e_vo.symm) rfl (Nat.le_of_ble_eq_true rfl) (Nat.le_of_ble_eq_true rfl) dX8_canLend_29
  · rw [if_neg c_9_1] at h
    refine K.aload_n (q := 13) dX8_canLend_12 rfl rfl ?_
    refine K.iload_n (q := 14) dX8_canLend_13 rfl rfl ?_
    obtain ⟨v2, h9_2, h⟩ := bnd1_inv h
    refine K.callS0 (q := 17) mkX8_need mw_X8_72 (s_X8_need _ _ h9_2) rfl (by decide) rfl (Nat.le_of_ble_eq_true rfl) (Nat.le_of_ble_eq_true rfl) (Nat.le_of_ble_eq_true rfl) dX8_canLend_14 rfl ?_
    obtain ⟨v3, h9_3, h⟩ := bnd1_inv h
    refine K.callV0 (q := 20) mkX8_finds mw_X8_75 (s_X8_finds _ _ h9_3) rfl (by decide) rfl (lt141 (by decide)) rx131 (Nat.le_of_ble_eq_true rfl) (Nat.le_of_ble_eq_true rfl) (Nat.le_of_ble_eq_true rfl) dX8_canLend_17 rfl ?_
    refine K.iconst (q := 21) (v := (-1)) dX8_canLend_20 rfl (by decide) ?_
    refine K.icmp_eq (q := 24) (tgt := 28) dX8_canLend_21 rfl (by decide) (fun c_21_4 => ?_) (fun c_21_4 => ?_)
    · rw [if_pos c_21_4] at h
      refine K.iconst (q := 29) (v := 0) dX8_canLend_28 rfl (by decide) ?_
      obtain e_vo := ret1_inv h
      exact C.iret rfl rfl (congrArg (fun z => Sum.inl (some (Value.int z))) e_vo.symm) rfl (Nat.le_of_ble_eq_true rfl) (Nat.le_of_ble_eq_true rfl) dX8_canLend_29
    · rw [if_neg c_21_4] at h
      refine K.iconst (q := 25) (v := 1) dX8_canLend_24 rfl (by decide) ?_
      refine K.goto (tgt := 29) dX8_canLend_25 (by decide) ?_
      obtain e_vo := ret1_inv h
      exact C.iret rfl rfl (congrArg (fun z => Sum.inl (some (Value.int z))) e_vo.symm) rfl (Nat.le_of_ble_eq_true rfl) (Nat.le_of_ble_eq_true rfl) dX8_canLend_29

def m_X8_lendsTo (X : GS) (name : Int32) (amount : Int32) : Option (Int32 × GS) := (bnd1 (m_X8_need amount) fun (v1 : Int32) => (bnd1 (m_X8_finds X v1) fun (v2 : Int32) => (bnd1 (m_X8_need amount) fun (v3 : Int32) => (bnd2 (m_X8_halves X v2 v3) fun (v4 : Int32) (X4 : GS) => (if inR (65 + ((X.2.2.1 5) 64)) 129 then (if inR (81 + ((X.2.2.1 5) 64)) 129 then (if inR (97 + ((X.2.2.1 5) 64)) 129 then (some (((X.2.2.1 5) 64), (uA (uA (uA (uA X4 5 (up (X4.2.2.1 5) ((65 + ((X.2.2.1 5) 64)).toNatClampNeg) name)) 5 (up (up (X4.2.2.1 5) ((65 + ((X.2.2.1 5) 64)).toNatClampNeg) name) ((81 + ((X.2.2.1 5) 64)).toNatClampNeg) amount)) 5 (up (up (up (X4.2.2.1 5) ((65 + ((X.2.2.1 5) 64)).toNatClampNeg) name) ((81 + ((X.2.2.1 5) 64)).toNatClampNeg) amount) ((97 + ((X.2.2.1 5) 64)).toNatClampNeg) v4)) 5 (up (up (up (up (X4.2.2.1 5) ((65 + ((X.2.2.1 5) 64)).toNatClampNeg) name) ((81 + ((X.2.2.1 5) 64)).toNatClampNeg) amount) ((97 + ((X.2.2.1 5) 64)).toNatClampNeg) v4) 64 (((up (up (up (X4.2.2.1 5) ((65 + ((X.2.2.1 5) 64)).toNatClampNeg) name) ((81 + ((X.2.2.1 5) 64)).toNatClampNeg) amount) ((97 + ((X.2.2.1 5) 64)).toNatClampNeg) v4) 64) + 1))))) else none) else none) else none)))))
set_option maxRecDepth 20000 in
set_option maxHeartbeats 1000000 in
theorem s_X8_lendsTo (X : GS) (name : Int32) (amount : Int32) {vo : Int32} {Xo : GS} (h : m_X8_lendsTo X name amount = some (vo, Xo)) : Ct 4 0 0 yX8_lendsTo (.code yX8_lendsTo cX8_lendsTo 5 (some (.int))) [.ref 131, .int name, .int amount] (mkH X) (.inl (some (.int vo))) (mkH Xo) := by
  refine Ct.of (LL := [some (.ref 131), some (.int name), some (.int amount), none, none]) mkX8_lendsTo.1 owX8_lendsTo rfl (Nat.le_of_ble_eq_true rfl) rfl (fun Wk C => ?_)
  have K := C.core
  rw [m_X8_lendsTo] at h
  refine K.aload_n (q := 1) dX8_lendsTo_0 rfl rfl ?_
  refine K.getf (q := 4) (v := .ref 132) fo_X8_7.r rx131 (lt141 (by decide)) rfl dX8_lendsTo_1 rfl ?_
  refine K.bipush (q := 6) (v := 64) dX8_lendsTo_4 rfl (by decide) ?_
  refine K.ial (q := 7) (f := (X.2.2.1 5)) (m := 64) rx132 (lt141 (by decide)) rfl (by decide) (by decide) dX8_lendsTo_6 rfl ?_
  refine K.istore_n (q := 8) (i := 3) dX8_lendsTo_7 rfl rfl (by decide) rfl ?_
  refine K.aload_n (q := 9) dX8_lendsTo_8 rfl rfl ?_
  refine K.aload_n (q := 10) dX8_lendsTo_9 rfl rfl ?_
  refine K.iload_n (q := 11) dX8_lendsTo_10 rfl rfl ?_
  obtain ⟨v1, h9_1, h⟩ := bnd1_inv h
  refine K.callS0 (q := 14) mkX8_need mw_X8_72 (s_X8_need _ _ h9_1) rfl (by decide) rfl (Nat.le_of_ble_eq_true rfl) (Nat.le_of_ble_eq_true rfl) (Nat.le_of_ble_eq_true rfl) dX8_lendsTo_11 rfl ?_
  obtain ⟨v2, h9_2, h⟩ := bnd1_inv h
  refine K.callV0 (q := 17) mkX8_finds mw_X8_75 (s_X8_finds _ _ h9_2) rfl (by decide) rfl (lt141 (by decide)) rx131 (Nat.le_of_ble_eq_true rfl) (Nat.le_of_ble_eq_true rfl) (Nat.le_of_ble_eq_true rfl) dX8_lendsTo_14 rfl ?_
  refine K.iload_n (q := 18) dX8_lendsTo_17 rfl rfl ?_
  obtain ⟨v3, h9_3, h⟩ := bnd1_inv h
  refine K.callS0 (q := 21) mkX8_need mw_X8_72 (s_X8_need _ _ h9_3) rfl (by decide) rfl (Nat.le_of_ble_eq_true rfl) (Nat.le_of_ble_eq_true rfl) (Nat.le_of_ble_eq_true rfl) dX8_lendsTo_18 rfl ?_
  obtain ⟨v4, X4, h9_4, h⟩ := bnd2_inv h
  refine K.callV0 (q := 24) mkX8_halves mw_X8_78 (s_X8_halves _ _ _ h9_4) rfl (by decide) rfl (lt141 (by decide)) rx131 (Nat.le_of_ble_eq_true rfl) (Nat.le_of_ble_eq_true rfl) (Nat.le_of_ble_eq_true rfl) dX8_lendsTo_21 rfl ?_
  refine K.istore (q := 26) dX8_lendsTo_24 rfl (by decide) rfl ?_
  refine K.aload_n (q := 27) dX8_lendsTo_26 rfl rfl ?_
  refine K.getf (q := 30) (v := .ref 132) fo_X8_7.r rx131 (lt141 (by decide)) rfl dX8_lendsTo_27 rfl ?_
  refine K.bipush (q := 32) (v := 65) dX8_lendsTo_30 rfl (by decide) ?_
  refine K.iload_n (q := 33) dX8_lendsTo_32 rfl rfl ?_
  refine K.iadd (q := 34) dX8_lendsTo_33 rfl ?_
  refine K.iload_n (q := 35) dX8_lendsTo_34 rfl rfl ?_
  obtain ⟨k_5, h⟩ := chk_inv h
  refine K.ias (q := 36) (f := (X4.2.2.1 5)) (m := ((65 + ((X.2.2.1 5) 64)).toNatClampNeg)) rx132 (lt141 (by decide)) (cl_nI k_5.1) k_5.2 (by decide) pxa5 dX8_lendsTo_35 rfl ?_
  refine K.aload_n (q := 37) dX8_lendsTo_36 rfl rfl ?_
  refine K.getf (q := 40) (v := .ref 132) fo_X8_7.r rx131 (lt141 (by decide)) rfl dX8_lendsTo_37 rfl ?_
  refine K.bipush (q := 42) (v := 81) dX8_lendsTo_40 rfl (by decide) ?_
  refine K.iload_n (q := 43) dX8_lendsTo_42 rfl rfl ?_
  refine K.iadd (q := 44) dX8_lendsTo_43 rfl ?_
  refine K.iload_n (q := 45) dX8_lendsTo_44 rfl rfl ?_
  obtain ⟨k_6, h⟩ := chk_inv h
  refine K.ias (q := 46) (f := (up (X4.2.2.1 5) ((65 + ((X.2.2.1 5) 64)).toNatClampNeg) name)) (m := ((81 + ((X.2.2.1 5) 64)).toNatClampNeg)) rx132 (lt141 (by decide)) (cl_nI k_6.1) k_6.2 (by decide) pxa5 dX8_lendsTo_45 rfl ?_
  refine K.aload_n (q := 47) dX8_lendsTo_46 rfl rfl ?_
  refine K.getf (q := 50) (v := .ref 132) fo_X8_7.r rx131 (lt141 (by decide)) rfl dX8_lendsTo_47 rfl ?_
  refine K.bipush (q := 52) (v := 97) dX8_lendsTo_50 rfl (by decide) ?_
  refine K.iload_n (q := 53) dX8_lendsTo_52 rfl rfl ?_
  refine K.iadd (q := 54) dX8_lendsTo_53 rfl ?_
  refine K.iload (q := 56) dX8_lendsTo_54 rfl rfl ?_
  obtain ⟨k_7, h⟩ := chk_inv h
  refine K.ias (q := 57) (f := (up (up (X4.2.2.1 5) ((65 + ((X.2.2.1 5) 64)).toNatClampNeg) name) ((81 + ((X.2.2.1 5) 64)).toNatClampNeg) amount)) (m := ((97 + ((X.2.2.1 5) 64)).toNatClampNeg)) rx132 (lt141 (by decide)) (cl_nI k_7.1) k_7.2 (by decide) pxa5 dX8_lendsTo_56 rfl ?_
  refine K.aload_n (q := 58) dX8_lendsTo_57 rfl rfl ?_
  refine K.getf (q := 61) (v := .ref 132) fo_X8_7.r rx131 (lt141 (by decide)) rfl dX8_lendsTo_58 rfl ?_
  refine K.bipush (q := 63) (v := 64) dX8_lendsTo_61 rfl (by decide) ?_
  refine K.dup2 (q := 64) dX8_lendsTo_63 rfl rfl rfl ?_
  refine K.ial (q := 65) (f := (up (up (up (X4.2.2.1 5) ((65 + ((X.2.2.1 5) 64)).toNatClampNeg) name) ((81 + ((X.2.2.1 5) 64)).toNatClampNeg) amount) ((97 + ((X.2.2.1 5) 64)).toNatClampNeg) v4)) (m := 64) rx132 (lt141 (by decide)) rfl (by decide) (by decide) dX8_lendsTo_64 rfl ?_
  refine K.iconst (q := 66) (v := 1) dX8_lendsTo_65 rfl (by decide) ?_
  refine K.iadd (q := 67) dX8_lendsTo_66 rfl ?_
  refine K.ias (q := 68) (f := (up (up (up (X4.2.2.1 5) ((65 + ((X.2.2.1 5) 64)).toNatClampNeg) name) ((81 + ((X.2.2.1 5) 64)).toNatClampNeg) amount) ((97 + ((X.2.2.1 5) 64)).toNatClampNeg) v4)) (m := 64) rx132 (lt141 (by decide)) rfl (by decide) (by decide) pxa5 dX8_lendsTo_67 rfl ?_
  refine K.iload_n (q := 69) dX8_lendsTo_68 rfl rfl ?_
  obtain ⟨e_vo, e_Xo⟩ := ret2_inv h
  exact C.iret rfl rfl (congrArg (fun z => Sum.inl (some (Value.int z))) e_vo.symm) (congrArg mkH e_Xo) (Nat.le_of_ble_eq_true rfl) (Nat.le_of_ble_eq_true rfl) dX8_lendsTo_69

def lp_X8_leaves_13 : Nat → Int32 → GS → Option (Int32 × GS)
  | 0, _, _ => none
  | j13 + 1, a2_13, XX13 => (if ((XX13.2.2.1 5) 113) ≤ a2_13 then (some (a2_13, XX13)) else (if inR ((114 + a2_13) + 1) 129 then (if inR (114 + a2_13) 129 then (if inR ((120 + a2_13) + 1) 129 then (if inR (120 + a2_13) 129 then (lp_X8_leaves_13 j13 (a2_13 + 1) (uA (uA XX13 5 (up (XX13.2.2.1 5) ((114 + a2_13).toNatClampNeg) ((XX13.2.2.1 5) (((114 + a2_13) + 1).toNatClampNeg)))) 5 (up (up (XX13.2.2.1 5) ((114 + a2_13).toNatClampNeg) ((XX13.2.2.1 5) (((114 + a2_13) + 1).toNatClampNeg))) ((120 + a2_13).toNatClampNeg) ((up (XX13.2.2.1 5) ((114 + a2_13).toNatClampNeg) ((XX13.2.2.1 5) (((114 + a2_13) + 1).toNatClampNeg))) (((120 + a2_13) + 1).toNatClampNeg))))) else none) else none) else none) else none))

def m_X8_leaves (X : GS) (place : Int32) : Option (GS) := (bnd2 (lp_X8_leaves_13 1000 place (uA X 5 (up (X.2.2.1 5) 113 (((X.2.2.1 5) 113) - 1)))) fun (a2_13_6 : Int32) (XX13_6 : GS) => (if inR (114 + ((XX13_6.2.2.1 5) 113)) 129 then (if inR (120 + ((up (XX13_6.2.2.1 5) ((114 + ((XX13_6.2.2.1 5) 113)).toNatClampNeg) 0) 113)) 129 then (some (uA (uA XX13_6 5 (up (XX13_6.2.2.1 5) ((114 + ((XX13_6.2.2.1 5) 113)).toNatClampNeg) 0)) 5 (up (up (XX13_6.2.2.1 5) ((114 + ((XX13_6.2.2.1 5) 113)).toNatClampNeg) 0) ((120 + ((up (XX13_6.2.2.1 5) ((114 + ((XX13_6.2.2.1 5) 113)).toNatClampNeg) 0) 113)).toNatClampNeg) 0))) else none) else none))
set_option maxRecDepth 20000 in
set_option maxHeartbeats 1000000 in
theorem s_X8_leaves (X : GS) (place : Int32) {Xo : GS} (h : m_X8_leaves X place = some Xo) : Ct 1 0 0 yX8_leaves (.code yX8_leaves cX8_leaves 3 none) [.ref 131, .int place] (mkH X) (.inl none) (mkH Xo) := by
  refine Ct.of (LL := [some (.ref 131), some (.int place), none]) mkX8_leaves.1 owX8_leaves rfl (Nat.le_of_ble_eq_true rfl) rfl (fun Wk C => ?_)
  have K := C.core
  rw [m_X8_leaves] at h
  refine K.aload_n (q := 1) dX8_leaves_0 rfl rfl ?_
  refine K.getf (q := 4) (v := .ref 132) fo_X8_7.r rx131 (lt141 (by decide)) rfl dX8_leaves_1 rfl ?_
  refine K.bipush (q := 6) (v := 113) dX8_leaves_4 rfl (by decide) ?_
  refine K.dup2 (q := 7) dX8_leaves_6 rfl rfl rfl ?_
  refine K.ial (q := 8) (f := (X.2.2.1 5)) (m := 113) rx132 (lt141 (by decide)) rfl (by decide) (by decide) dX8_leaves_7 rfl ?_
  refine K.iconst (q := 9) (v := 1) dX8_leaves_8 rfl (by decide) ?_
  refine K.isub (q := 10) dX8_leaves_9 rfl ?_
  refine K.ias (q := 11) (f := (X.2.2.1 5)) (m := 113) rx132 (lt141 (by decide)) rfl (by decide) (by decide) pxa5 dX8_leaves_10 rfl ?_
  refine K.iload_n (q := 12) dX8_leaves_11 rfl rfl ?_
  refine K.istore_n (q := 13) (i := 2) dX8_leaves_12 rfl rfl (by decide) rfl ?_
  have L13 : ∀ (j13 : Nat) (a2_13 : Int32) (XX13 : GS) (a2_13r : Int32) (XX13r : GS), lp_X8_leaves_13 j13 a2_13 XX13 = some (a2_13r, XX13r) → (Wk 0 0 70 [some (.ref 131), some (.int place), some (.int a2_13r)] [] (mkH XX13r)) → Wk 0 0 13 [some (.ref 131), some (.int place), some (.int a2_13)] [] (mkH XX13) := by
    intro j13
    induction j13 with
    | zero =>
      intro a2_13 XX13 a2_13r XX13r h hx
      rw [lp_X8_leaves_13] at h
      cases h
    | succ j13 ih =>
      intro a2_13 XX13 a2_13r XX13r h hx
      rw [lp_X8_leaves_13] at h
      refine K.iload_n (q := 14) dX8_leaves_13 rfl rfl ?_
      refine K.aload_n (q := 15) dX8_leaves_14 rfl rfl ?_
      refine K.getf (q := 18) (v := .ref 132) fo_X8_7.r rx131 (lt141 (by decide)) rfl dX8_leaves_15 rfl ?_
      refine K.bipush (q := 20) (v := 113) dX8_leaves_18 rfl (by decide) ?_
      refine K.ial (q := 21) (f := (XX13.2.2.1 5)) (m := 113) rx132 (lt141 (by decide)) rfl (by decide) (by decide) dX8_leaves_20 rfl ?_
      refine K.icmp_ge (q := 24) (tgt := 70) dX8_leaves_21 rfl (by decide) (fun c_21_1 => ?_) (fun c_21_1 => ?_)
      · rw [if_pos c_21_1] at h
        obtain ⟨q0, q1⟩ := ret2_inv h
        subst q0; subst q1
        exact hx
      · rw [if_neg c_21_1] at h
        refine K.aload_n (q := 25) dX8_leaves_24 rfl rfl ?_
        refine K.getf (q := 28) (v := .ref 132) fo_X8_7.r rx131 (lt141 (by decide)) rfl dX8_leaves_25 rfl ?_
        refine K.bipush (q := 30) (v := 114) dX8_leaves_28 rfl (by decide) ?_
        refine K.iload_n (q := 31) dX8_leaves_30 rfl rfl ?_
        refine K.iadd (q := 32) dX8_leaves_31 rfl ?_
        refine K.aload_n (q := 33) dX8_leaves_32 rfl rfl ?_
        refine K.getf (q := 36) (v := .ref 132) fo_X8_7.r rx131 (lt141 (by decide)) rfl dX8_leaves_33 rfl ?_
        refine K.bipush (q := 38) (v := 114) dX8_leaves_36 rfl (by decide) ?_
        refine K.iload_n (q := 39) dX8_leaves_38 rfl rfl ?_
        refine K.iadd (q := 40) dX8_leaves_39 rfl ?_
        refine K.iconst (q := 41) (v := 1) dX8_leaves_40 rfl (by decide) ?_
        refine K.iadd (q := 42) dX8_leaves_41 rfl ?_
        obtain ⟨k_2, h⟩ := chk_inv h
        refine K.ial (q := 43) (f := (XX13.2.2.1 5)) (m := (((114 + a2_13) + 1).toNatClampNeg)) rx132 (lt141 (by decide)) (cl_nI k_2.1) k_2.2 (by decide) dX8_leaves_42 rfl ?_
        obtain ⟨k_3, h⟩ := chk_inv h
        refine K.ias (q := 44) (f := (XX13.2.2.1 5)) (m := ((114 + a2_13).toNatClampNeg)) rx132 (lt141 (by decide)) (cl_nI k_3.1) k_3.2 (by decide) pxa5 dX8_leaves_43 rfl ?_
        refine K.aload_n (q := 45) dX8_leaves_44 rfl rfl ?_
        refine K.getf (q := 48) (v := .ref 132) fo_X8_7.r rx131 (lt141 (by decide)) rfl dX8_leaves_45 rfl ?_
        refine K.bipush (q := 50) (v := 120) dX8_leaves_48 rfl (by decide) ?_
        refine K.iload_n (q := 51) dX8_leaves_50 rfl rfl ?_
        refine K.iadd (q := 52) dX8_leaves_51 rfl ?_
        refine K.aload_n (q := 53) dX8_leaves_52 rfl rfl ?_
        refine K.getf (q := 56) (v := .ref 132) fo_X8_7.r rx131 (lt141 (by decide)) rfl dX8_leaves_53 rfl ?_
        refine K.bipush (q := 58) (v := 120) dX8_leaves_56 rfl (by decide) ?_
        refine K.iload_n (q := 59) dX8_leaves_58 rfl rfl ?_
        refine K.iadd (q := 60) dX8_leaves_59 rfl ?_
        refine K.iconst (q := 61) (v := 1) dX8_leaves_60 rfl (by decide) ?_
        refine K.iadd (q := 62) dX8_leaves_61 rfl ?_
        obtain ⟨k_4, h⟩ := chk_inv h
        refine K.ial (q := 63) (f := (up (XX13.2.2.1 5) ((114 + a2_13).toNatClampNeg) ((XX13.2.2.1 5) (((114 + a2_13) + 1).toNatClampNeg)))) (m := (((120 + a2_13) + 1).toNatClampNeg)) rx132 (lt141 (by decide)) (cl_nI k_4.1) k_4.2 (by decide) dX8_leaves_62 rfl ?_
        obtain ⟨k_5, h⟩ := chk_inv h
        refine K.ias (q := 64) (f := (up (XX13.2.2.1 5) ((114 + a2_13).toNatClampNeg) ((XX13.2.2.1 5) (((114 + a2_13) + 1).toNatClampNeg)))) (m := ((120 + a2_13).toNatClampNeg)) rx132 (lt141 (by decide)) (cl_nI k_5.1) k_5.2 (by decide) pxa5 dX8_leaves_63 rfl ?_
        refine K.iinc (q := 67) (v := (a2_13 + 1)) dX8_leaves_64 rfl rfl rfl (by decide) rfl ?_
        refine K.goto (tgt := 13) dX8_leaves_67 (by decide) ?_
        exact ih (a2_13 + 1) (uA (uA XX13 5 (up (XX13.2.2.1 5) ((114 + a2_13).toNatClampNeg) ((XX13.2.2.1 5) (((114 + a2_13) + 1).toNatClampNeg)))) 5 (up (up (XX13.2.2.1 5) ((114 + a2_13).toNatClampNeg) ((XX13.2.2.1 5) (((114 + a2_13) + 1).toNatClampNeg))) ((120 + a2_13).toNatClampNeg) ((up (XX13.2.2.1 5) ((114 + a2_13).toNatClampNeg) ((XX13.2.2.1 5) (((114 + a2_13) + 1).toNatClampNeg))) (((120 + a2_13) + 1).toNatClampNeg)))) _ _ h hx
  obtain ⟨a2_13_6, XX13_6, h9_6, h⟩ := bnd2_inv h
  refine L13 1000 place (uA X 5 (up (X.2.2.1 5) 113 (((X.2.2.1 5) 113) - 1))) _ _ h9_6 ?_
  refine K.aload_n (q := 71) dX8_leaves_70 rfl rfl ?_
  refine K.getf (q := 74) (v := .ref 132) fo_X8_7.r rx131 (lt141 (by decide)) rfl dX8_leaves_71 rfl ?_
  refine K.bipush (q := 76) (v := 114) dX8_leaves_74 rfl (by decide) ?_
  refine K.aload_n (q := 77) dX8_leaves_76 rfl rfl ?_
  refine K.getf (q := 80) (v := .ref 132) fo_X8_7.r rx131 (lt141 (by decide)) rfl dX8_leaves_77 rfl ?_
  refine K.bipush (q := 82) (v := 113) dX8_leaves_80 rfl (by decide) ?_
  refine K.ial (q := 83) (f := (XX13_6.2.2.1 5)) (m := 113) rx132 (lt141 (by decide)) rfl (by decide) (by decide) dX8_leaves_82 rfl ?_
  refine K.iadd (q := 84) dX8_leaves_83 rfl ?_
  refine K.iconst (q := 85) (v := 0) dX8_leaves_84 rfl (by decide) ?_
  obtain ⟨k_7, h⟩ := chk_inv h
  refine K.ias (q := 86) (f := (XX13_6.2.2.1 5)) (m := ((114 + ((XX13_6.2.2.1 5) 113)).toNatClampNeg)) rx132 (lt141 (by decide)) (cl_nI k_7.1) k_7.2 (by decide) pxa5 dX8_leaves_85 rfl ?_
  refine K.aload_n (q := 87) dX8_leaves_86 rfl rfl ?_
  refine K.getf (q := 90) (v := .ref 132) fo_X8_7.r rx131 (lt141 (by decide)) rfl dX8_leaves_87 rfl ?_
  refine K.bipush (q := 92) (v := 120) dX8_leaves_90 rfl (by decide) ?_
  refine K.aload_n (q := 93) dX8_leaves_92 rfl rfl ?_
  refine K.getf (q := 96) (v := .ref 132) fo_X8_7.r rx131 (lt141 (by decide)) rfl dX8_leaves_93 rfl ?_
  refine K.bipush (q := 98) (v := 113) dX8_leaves_96 rfl (by decide) ?_
  refine K.ial (q := 99) (f := (up (XX13_6.2.2.1 5) ((114 + ((XX13_6.2.2.1 5) 113)).toNatClampNeg) 0)) (m := 113) rx132 (lt141 (by decide)) rfl (by decide) (by decide) dX8_leaves_98 rfl ?_
  refine K.iadd (q := 100) dX8_leaves_99 rfl ?_
  refine K.iconst (q := 101) (v := 0) dX8_leaves_100 rfl (by decide) ?_
  obtain ⟨k_8, h⟩ := chk_inv h
  refine K.ias (q := 102) (f := (up (XX13_6.2.2.1 5) ((114 + ((XX13_6.2.2.1 5) 113)).toNatClampNeg) 0)) (m := ((120 + ((up (XX13_6.2.2.1 5) ((114 + ((XX13_6.2.2.1 5) 113)).toNatClampNeg) 0) 113)).toNatClampNeg)) rx132 (lt141 (by decide)) (cl_nI k_8.1) k_8.2 (by decide) pxa5 dX8_leaves_101 rfl ?_
  obtain e_Xo := ret1_inv h
  exact C.vret rfl rfl (congrArg mkH e_Xo) (Nat.le_of_ble_eq_true rfl) (Nat.le_of_ble_eq_true rfl) dX8_leaves_102

def lp_X8_serves_4 : Nat → Int32 → Int32 → GS → Option (Int32 × Int32 × GS)
  | 0, _, _, _ => none
  | j4 + 1, a1_4, a2_4, XX4 => (if ((XX4.2.2.1 5) 113) ≤ a2_4 then (some (a1_4, a2_4, XX4)) else (if inR (120 + a2_4) 129 then (bnd1 (m_X8_canLend XX4 ((XX4.2.2.1 5) ((120 + a2_4).toNatClampNeg))) fun (v3 : Int32) => (if v3 = 0 then (lp_X8_serves_4 j4 a1_4 (a2_4 + 1) XX4) else (if inR (114 + a2_4) 129 then (if inR (120 + a2_4) 129 then (bnd2 (m_X8_lendsTo XX4 ((XX4.2.2.1 5) ((114 + a2_4).toNatClampNeg)) ((XX4.2.2.1 5) ((120 + a2_4).toNatClampNeg))) fun (v7 : Int32) (X7 : GS) => (bnd1 (m_X8_leaves X7 a2_4) fun (X8 : GS) => (lp_X8_serves_4 j4 (a1_4 + 1) a2_4 X8))) else none) else none))) else none))

def m_X8_serves (X : GS) : Option (Int32 × GS) := (bnd3 (lp_X8_serves_4 1000 0 0 X) fun (a1_4_9 : Int32) (a2_4_9 : Int32) (XX4_9 : GS) => (some (a1_4_9, XX4_9)))
set_option maxRecDepth 20000 in
set_option maxHeartbeats 1000000 in
theorem s_X8_serves (X : GS) {vo : Int32} {Xo : GS} (h : m_X8_serves X = some (vo, Xo)) : Ct 5 0 0 yX8_serves (.code yX8_serves cX8_serves 4 (some (.int))) [.ref 131] (mkH X) (.inl (some (.int vo))) (mkH Xo) := by
  refine Ct.of (LL := [some (.ref 131), none, none, none]) mkX8_serves.1 owX8_serves rfl (Nat.le_of_ble_eq_true rfl) rfl (fun Wk C => ?_)
  have K := C.core
  rw [m_X8_serves] at h
  refine K.iconst (q := 1) (v := 0) dX8_serves_0 rfl (by decide) ?_
  refine K.istore_n (q := 2) (i := 1) dX8_serves_1 rfl rfl (by decide) rfl ?_
  refine K.iconst (q := 3) (v := 0) dX8_serves_2 rfl (by decide) ?_
  refine K.istore_n (q := 4) (i := 2) dX8_serves_3 rfl rfl (by decide) rfl ?_
  have L4 : ∀ (j4 : Nat) (a1_4 : Int32) (a2_4 : Int32) (XX4 : GS) (a1_4r : Int32) (a2_4r : Int32) (XX4r : GS), lp_X8_serves_4 j4 a1_4 a2_4 XX4 = some (a1_4r, a2_4r, XX4r) → (Wk 0 0 71 [some (.ref 131), some (.int a1_4r), some (.int a2_4r), none] [] (mkH XX4r)) → Wk 0 0 4 [some (.ref 131), some (.int a1_4), some (.int a2_4), none] [] (mkH XX4) := by
    intro j4
    induction j4 with
    | zero =>
      intro a1_4 a2_4 XX4 a1_4r a2_4r XX4r h hx
      rw [lp_X8_serves_4] at h
      cases h
    | succ j4 ih =>
      intro a1_4 a2_4 XX4 a1_4r a2_4r XX4r h hx
      rw [lp_X8_serves_4] at h
      refine K.iload_n (q := 5) dX8_serves_4 rfl rfl ?_
      refine K.aload_n (q := 6) dX8_serves_5 rfl rfl ?_
      refine K.getf (q := 9) (v := .ref 132) fo_X8_7.r rx131 (lt141 (by decide)) rfl dX8_serves_6 rfl ?_
      refine K.bipush (q := 11) (v := 113) dX8_serves_9 rfl (by decide) ?_
      refine K.ial (q := 12) (f := (XX4.2.2.1 5)) (m := 113) rx132 (lt141 (by decide)) rfl (by decide) (by decide) dX8_serves_11 rfl ?_
      refine K.icmp_ge (q := 15) (tgt := 71) dX8_serves_12 rfl (by decide) (fun c_12_1 => ?_) (fun c_12_1 => ?_)
      · rw [if_pos c_12_1] at h
        obtain ⟨q0, q1, q2⟩ := ret3_inv h
        subst q0; subst q1; subst q2
        exact hx
      · rw [if_neg c_12_1] at h
        refine K.aload_n (q := 16) dX8_serves_15 rfl rfl ?_
        refine K.aload_n (q := 17) dX8_serves_16 rfl rfl ?_
        refine K.getf (q := 20) (v := .ref 132) fo_X8_7.r rx131 (lt141 (by decide)) rfl dX8_serves_17 rfl ?_
        refine K.bipush (q := 22) (v := 120) dX8_serves_20 rfl (by decide) ?_
        refine K.iload_n (q := 23) dX8_serves_22 rfl rfl ?_
        refine K.iadd (q := 24) dX8_serves_23 rfl ?_
        obtain ⟨k_2, h⟩ := chk_inv h
        refine K.ial (q := 25) (f := (XX4.2.2.1 5)) (m := ((120 + a2_4).toNatClampNeg)) rx132 (lt141 (by decide)) (cl_nI k_2.1) k_2.2 (by decide) dX8_serves_24 rfl ?_
        obtain ⟨v3, h9_3, h⟩ := bnd1_inv h
        refine K.callV0 (q := 28) mkX8_canLend mw_X8_82 (s_X8_canLend _ _ h9_3) rfl (by decide) rfl (lt141 (by decide)) rx131 (Nat.le_of_ble_eq_true rfl) (Nat.le_of_ble_eq_true rfl) (Nat.le_of_ble_eq_true rfl) dX8_serves_25 rfl ?_
        refine K.if_eq (q := 31) (tgt := 65) dX8_serves_28 rfl (by decide) (fun c_28_4 => ?_) (fun c_28_4 => ?_)
        · rw [if_pos c_28_4] at h
          refine K.iinc (q := 68) (v := (a2_4 + 1)) dX8_serves_65 rfl rfl rfl (by decide) rfl ?_
          refine K.goto (tgt := 4) dX8_serves_68 (by decide) ?_
          exact ih a1_4 (a2_4 + 1) XX4 _ _ _ h hx
        · rw [if_neg c_28_4] at h
          refine K.aload_n (q := 32) dX8_serves_31 rfl rfl ?_
          refine K.aload_n (q := 33) dX8_serves_32 rfl rfl ?_
          refine K.getf (q := 36) (v := .ref 132) fo_X8_7.r rx131 (lt141 (by decide)) rfl dX8_serves_33 rfl ?_
          refine K.bipush (q := 38) (v := 114) dX8_serves_36 rfl (by decide) ?_
          refine K.iload_n (q := 39) dX8_serves_38 rfl rfl ?_
          refine K.iadd (q := 40) dX8_serves_39 rfl ?_
          obtain ⟨k_5, h⟩ := chk_inv h
          refine K.ial (q := 41) (f := (XX4.2.2.1 5)) (m := ((114 + a2_4).toNatClampNeg)) rx132 (lt141 (by decide)) (cl_nI k_5.1) k_5.2 (by decide) dX8_serves_40 rfl ?_
          refine K.aload_n (q := 42) dX8_serves_41 rfl rfl ?_
          refine K.getf (q := 45) (v := .ref 132) fo_X8_7.r rx131 (lt141 (by decide)) rfl dX8_serves_42 rfl ?_
          refine K.bipush (q := 47) (v := 120) dX8_serves_45 rfl (by decide) ?_
          refine K.iload_n (q := 48) dX8_serves_47 rfl rfl ?_
          refine K.iadd (q := 49) dX8_serves_48 rfl ?_
          obtain ⟨k_6, h⟩ := chk_inv h
          refine K.ial (q := 50) (f := (XX4.2.2.1 5)) (m := ((120 + a2_4).toNatClampNeg)) rx132 (lt141 (by decide)) (cl_nI k_6.1) k_6.2 (by decide) dX8_serves_49 rfl ?_
          obtain ⟨v7, X7, h9_7, h⟩ := bnd2_inv h
          refine K.callV0 (q := 53) mkX8_lendsTo mw_X8_85 (s_X8_lendsTo _ _ _ h9_7) rfl (by decide) rfl (lt141 (by decide)) rx131 (Nat.le_of_ble_eq_true rfl) (Nat.le_of_ble_eq_true rfl) (Nat.le_of_ble_eq_true rfl) dX8_serves_50 rfl ?_
          refine K.istore_n (q := 54) (i := 3) dX8_serves_53 rfl rfl (by decide) rfl ?_
          refine K.aload_n (q := 55) dX8_serves_54 rfl rfl ?_
          refine K.iload_n (q := 56) dX8_serves_55 rfl rfl ?_
          obtain ⟨X8, h9_8, h⟩ := bnd1_inv h
          refine K.callVv0 (q := 59) mkX8_leaves mw_X8_88 (s_X8_leaves _ _ h9_8) rfl (by decide) rfl (lt141 (by decide)) rx131 (Nat.le_of_ble_eq_true rfl) (Nat.le_of_ble_eq_true rfl) (Nat.le_of_ble_eq_true rfl) dX8_serves_56 rfl ?_
          refine K.iinc (q := 62) (v := (a1_4 + 1)) dX8_serves_59 rfl rfl rfl (by decide) rfl ?_
          refine K.goto (tgt := 4) dX8_serves_62 (by decide) ?_
          refine K.drop 3 ?_
          exact ih (a1_4 + 1) a2_4 X8 _ _ _ h hx
  obtain ⟨a1_4_9, a2_4_9, XX4_9, h9_9, h⟩ := bnd3_inv h
  refine L4 1000 0 0 X _ _ _ h9_9 ?_
  refine K.iload_n (q := 72) dX8_serves_71 rfl rfl ?_
  obtain ⟨e_vo, e_Xo⟩ := ret2_inv h
  exact C.iret rfl rfl (congrArg (fun z => Sum.inl (some (Value.int z))) e_vo.symm) (congrArg mkH e_Xo) (Nat.le_of_ble_eq_true rfl) (Nat.le_of_ble_eq_true rfl) dX8_serves_72
