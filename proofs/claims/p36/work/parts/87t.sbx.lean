/-! ===== p36: StringBuilder's methods, 2 ===== -/
theorem dg_facts : ∀ v, v < 100 → ¬ nI v < 0 ∧ (-100 : Int32) < -(nI v) ∧ -(-(nI v)) = nI v ∧ (v < 10 → (-10 : Int32) < -(nI v) ∧ (-9 : Int32) ≤ -(nI v)) ∧ (10 ≤ v → ¬ (-10 : Int32) < -(nI v) ∧ (-100 : Int32) < -(nI v) ∧ ¬ (-9 : Int32) ≤ -(nI v)) ∧ vp_nar .byte (nI (48 + v % 10)) = nI (48 + v % 10) ∧ vp_nar .byte (nI (48 + v / 10)) = nI (48 + v / 10) := by decide +kernel
/-- a number's digits -/
def dgs (v : Nat) : List Int32 := if v < 10 then [nI (48 + v % 10)] else [nI (48 + v / 10), nI (48 + v % 10)]
def dgn (v : Nat) : Nat := if v < 10 then 1 else 2
theorem dgs_len (v : Nat) : (dgs v).length = dgn v := by unfold dgs dgn; split <;> rfl
/-- what the methods ask of the statics -/
def PrD (Pr : PrT) (t1 t2 : Nat) : Prop := prOk Pr ∧ (∀ g s, Pr g s → va_Z "java/lang/String" "COMPACT_STRINGS" "Z" (.int 1) (aD g) s s.heap) ∧
  (∀ g s, Pr g s → va_Z "java/lang/Integer" "DigitOnes" "[B" (.ref t1) (aD g) s s.heap) ∧ (∀ g s, Pr g s → va_Z "java/lang/Integer" "DigitTens" "[B" (.ref t2) (aD g) s s.heap) ∧
  (∀ g s, Pr g s → va_T .byte t1 100 (fun j => .int (nI (48 + j % 10))) (aD g) s s.heap) ∧ (∀ g s, Pr g s → va_T .byte t2 100 (fun j => .int (nI (48 + j / 10))) (aD g) s s.heap)
section
variable {Pr : PrT} {H : aH} {i n m t1 t2 : Nat} {f : Nat → Int32} {pre : List mC} {t u : List Int32} {sa sd : Nat}
theorem b5_inf (hP : ∀ g s, Pr g s → PrS sa sd u g s) (hok : prOk Pr) (h0 : H.2.2 0 = sbO i n) (l0 : 0 < H.2.1) : CtG Pr 2 0 0 yJ5_inflateIfNeededFor_a7421 (.code yJ5_inflateIfNeededFor_a7421 cJ5_inflateIfNeededFor_a7421 2 none) [.ref 0, .ref (sa + 1000)] H (.inl none) H := by
  refine CtG.ofI (LL := [some (.ref 0), some (.ref (sa + 1000))]) umJ5_inflateIfNeededFor_a7421.1 owJ5_inflateIfNeededFor_a7421 rfl (Nat.le_of_ble_eq_true rfl) rfl (fun Wk G C => ?_)
  have K := G.core
  refine G.gets (q := 3) (v := .int 1) (fun g s h => (hP g s h).2.2.2.2.1) (fun _ => rfl) fw_J5_18 dJ5_inflateIfNeededFor_a7421_0 rfl ?_
  refine K.if_eq (q := 6) (tgt := 21) dJ5_inflateIfNeededFor_a7421_3 rfl (by decide) (fun h => absurd h (by decide)) (fun _ => ?_)
  refine K.aload_n (q := 7) dJ5_inflateIfNeededFor_a7421_6 rfl rfl ?_
  refine K.getf (q := 10) (v := .int 0) fb_J5_22.r h0 l0 rfl dJ5_inflateIfNeededFor_a7421_7 rfl ?_
  refine K.aload_n (q := 11) dJ5_inflateIfNeededFor_a7421_10 rfl rfl ?_
  refine G.callVo (av := []) (q := 14) hok (fun g s h => (hP g s h).1) mkJ0_coder_7d493 mw_J5_40 (CtG.mono hP (j_coder H)) rfl (by decide) rfl (Nat.le_of_ble_eq_true rfl) (Nat.le_of_ble_eq_true rfl) (Nat.le_of_ble_eq_true rfl) dJ5_inflateIfNeededFor_a7421_11 rfl ?_
  refine K.icmp_eq (q := 17) (tgt := 21) dJ5_inflateIfNeededFor_a7421_14 rfl (by decide) (fun _ => ?_) (fun h => absurd rfl h)
  exact C.vret rfl rfl rfl (Nat.le_of_ble_eq_true rfl) (Nat.le_of_ble_eq_true rfl) dJ5_inflateIfNeededFor_a7421_21
theorem b0_get (hP : ∀ g s, Pr g s → PrS sa sd u g s) (hok : prOk Pr) (hu : okT u) (hl : pre.length + 2 ≤ 131) (hn : t.length + u.length ≤ m) (hm : m < 1073741824) : CtG Pr 2 0 0 yJ0_getBytes_840e7 (.code yJ0_getBytes_840e7 cJ0_getBytes_840e7 4 none) [.ref (sa + 1000), .ref (pre.length + 1), .int (nI t.length), .int 0] (bt pre m t) (.inl none) (hp (sbO (pre.length + 1) t.length :: (pre ++ [arB m (ft (t ++ u))]))) := by
  refine CtG.ofI (LL := [some (.ref (sa + 1000)), some (.ref (pre.length + 1)), some (.int (nI t.length)), some (.int 0)]) mkJ0_getBytes_840e7.1 owJ0_getBytes_840e7 rfl (Nat.le_of_ble_eq_true rfl) rfl (fun Wk G C => ?_)
  have K := G.core
  refine K.aload_n (q := 1) dJ0_getBytes_840e7_0 rfl rfl ?_
  refine G.callVo (av := []) (q := 4) hok (fun g s h => (hP g s h).1) mkJ0_coder_7d493 mw_J0_335 (CtG.mono hP (j_coder _)) rfl (by decide) rfl (Nat.le_of_ble_eq_true rfl) (Nat.le_of_ble_eq_true rfl) (Nat.le_of_ble_eq_true rfl) dJ0_getBytes_840e7_1 rfl ?_
  refine K.iload_n (q := 5) dJ0_getBytes_840e7_4 rfl rfl ?_
  refine K.icmp_ne (q := 8) (tgt := 28) dJ0_getBytes_840e7_5 rfl (by decide) (fun h => absurd rfl h) (fun _ => ?_)
  refine K.aload_n (q := 9) dJ0_getBytes_840e7_8 rfl rfl ?_
  refine G.getO (q := 12) (v := .ref (sd + 1000)) (fun g s h => (hP g s h).2.2.1) (fun _ => rv_out) fw_J0_9 dJ0_getBytes_840e7_9 rfl ?_
  refine K.iconst (q := 13) (v := 0) dJ0_getBytes_840e7_12 rfl (by decide) ?_
  refine K.aload_n (q := 14) dJ0_getBytes_840e7_13 rfl rfl ?_
  refine K.iload_n (q := 15) dJ0_getBytes_840e7_14 rfl rfl ?_
  refine K.iload_n (q := 16) dJ0_getBytes_840e7_15 rfl rfl ?_
  refine K.ishl (q := 17) dJ0_getBytes_840e7_16 rfl ?_
  rw [sb_shl0]
  refine K.aload_n (q := 18) dJ0_getBytes_840e7_17 rfl rfl ?_
  refine G.getO (q := 21) (v := .ref (sd + 1000)) (fun g s h => (hP g s h).2.2.1) (fun _ => rv_out) fw_J0_9 dJ0_getBytes_840e7_18 rfl ?_
  refine G.alnO (q := 22) (fun g s h => (hP g s h).2.2.2.1) dJ0_getBytes_840e7_21 rfl ?_
  have c1 : (nI t.length).toNatClampNeg = t.length := nI_clamp (by omega)
  have c2 : (nI u.length).toNatClampNeg = u.length := nI_clamp (by omega)
  refine G.cpbO (q := 25) (f := ft u) (S := []) (H' := hp (sbO (pre.length + 1) t.length :: (pre ++ [arB m (ft (t ++ u))]))) (fun g s h => (hP g s h).2.2.2.1) mw_J0_212 bt_li bt_i (by decide) (nI_pos (by omega)) (nI_pos (by omega)) (by rw [c2]; exact Nat.le_of_eq (Nat.zero_add _)) (by rw [c1, c2]; exact hn) (fun j _ => ft_fit hu _) (Nat.le_of_ble_eq_true rfl) (Nat.le_of_ble_eq_true rfl) ?_ dJ0_getBytes_840e7_22 rfl ?_
  · rw [show (0 : Int32).toNatClampNeg = 0 from rfl, c1, c2, ft_app]
    exact bt_pi
  refine K.goto (tgt := 43) dJ0_getBytes_840e7_25 (by decide) ?_
  exact C.vret rfl rfl rfl (Nat.le_of_ble_eq_true rfl) (Nat.le_of_ble_eq_true rfl) dJ0_getBytes_840e7_43
theorem b5_put (hP : ∀ g s, Pr g s → PrS sa sd u g s) (hok : prOk Pr) (hu : okT u) (hl : pre.length + 2 ≤ 131) (hn : t.length + u.length ≤ m) (hm : m < 1073741824) : CtG Pr 3 0 0 yJ5_putStringAt_47b60 (.code yJ5_putStringAt_47b60 cJ5_putStringAt_47b60 3 none) [.ref 0, .int (nI t.length), .ref (sa + 1000)] (bt pre m t) (.inl none) (hp (sbO (pre.length + 1) t.length :: (pre ++ [arB m (ft (t ++ u))]))) := by
  refine CtG.ofI (LL := [some (.ref 0), some (.int (nI t.length)), some (.ref (sa + 1000))]) umJ5_putStringAt_47b60.1 owJ5_putStringAt_47b60 rfl (Nat.le_of_ble_eq_true rfl) rfl (fun Wk G C => ?_)
  have K := G.core
  refine K.aload_n (q := 1) dJ5_putStringAt_47b60_0 rfl rfl ?_
  refine K.aload_n (q := 2) dJ5_putStringAt_47b60_1 rfl rfl ?_
  refine G.callUv (av := [.ref (sa + 1000)]) (S := []) (q := 5) hok umJ5_inflateIfNeededFor_a7421 mw_J5_397 (b5_inf hP hok bt_0 bt_l0) bt_l0 bt_0 rfl (by decide) rfl (Nat.le_of_ble_eq_true rfl) (Nat.le_of_ble_eq_true rfl) (Nat.le_of_ble_eq_true rfl) dJ5_putStringAt_47b60_2 rfl ?_
  refine K.aload_n (q := 6) dJ5_putStringAt_47b60_5 rfl rfl ?_
  refine K.aload_n (q := 7) dJ5_putStringAt_47b60_6 rfl rfl ?_
  refine K.getf (q := 10) (v := .ref (pre.length + 1)) fb_J5_15.r bt_0 bt_l0 rfl dJ5_putStringAt_47b60_7 rfl ?_
  refine K.iload_n (q := 11) dJ5_putStringAt_47b60_10 rfl rfl ?_
  refine K.aload_n (q := 12) dJ5_putStringAt_47b60_11 rfl rfl ?_
  refine K.getf (q := 15) (v := .int 0) fb_J5_22.r bt_0 bt_l0 rfl dJ5_putStringAt_47b60_12 rfl ?_
  refine G.callVov (av := [.ref (pre.length + 1), .int (nI t.length), .int 0]) (S := []) (q := 18) hok (fun g s h => (hP g s h).1) mkJ0_getBytes_840e7 mw_J5_399 (b0_get hP hok hu hl hn hm) rfl (by decide) rfl (Nat.le_of_ble_eq_true rfl) (Nat.le_of_ble_eq_true rfl) (Nat.le_of_ble_eq_true rfl) dJ5_putStringAt_47b60_15 rfl ?_
  exact C.vret rfl rfl rfl (Nat.le_of_ble_eq_true rfl) (Nat.le_of_ble_eq_true rfl) dJ5_putStringAt_47b60_18
/-- append(String); the capacity's part is given -/
theorem b5_aps {p0 : List mC} {m0 mc ms : Nat} (hP : ∀ g s, Pr g s → PrS sa sd u g s) (hok : prOk Pr) (hu : okT u) (hl : pre.length + 2 ≤ 131) (hn : t.length + u.length ≤ m) (hm : m < 1073741824)
    (hens : CtG Pr 3 mc ms yJ5_ensureCapacityInternal_d00df (.code yJ5_ensureCapacityInternal_d00df cJ5_ensureCapacityInternal_d00df 3 none) [.ref 0, .int (nI (t.length + u.length))] (bt p0 m0 t) (.inl none) (bt pre m t)) : CtG Pr 4 mc ms yJ5_append_cf1ce (.code yJ5_append_cf1ce cJ5_append_cf1ce 3 (some (.object "java/lang/AbstractStringBuilder"))) [.ref 0, .ref (sa + 1000)] (bt p0 m0 t) (.inl (some (.ref 0))) (bt pre m (t ++ u)) := by
  refine CtG.ofI (LL := [some (.ref 0), some (.ref (sa + 1000)), none]) suJ5_append_cf1ce.1 owJ5_append_cf1ce rfl (Nat.le_of_ble_eq_true rfl) rfl (fun Wk G C => ?_)
  have K := G.core
  refine K.aload_n (q := 1) dJ5_append_cf1ce_0 rfl rfl ?_
  refine K.ifnn (tgt := 9) dJ5_append_cf1ce_1 (by decide) ?_
  refine K.aload_n (q := 10) dJ5_append_cf1ce_9 rfl rfl ?_
  refine G.callVo (av := []) (q := 13) hok (fun g s h => (hP g s h).1) mkJ0_length_8abf5 mw_J5_32 (CtG.mono hP (j_length _)) rfl (Nat.le_of_ble_eq_true rfl) rfl (Nat.le_of_ble_eq_true rfl) (Nat.zero_le _) (Nat.zero_le _) dJ5_append_cf1ce_10 rfl ?_
  refine K.istore_n (i := 2) (q := 14) dJ5_append_cf1ce_13 rfl rfl (by decide) rfl ?_
  refine K.aload_n (q := 15) dJ5_append_cf1ce_14 rfl rfl ?_
  refine K.aload_n (q := 16) dJ5_append_cf1ce_15 rfl rfl ?_
  refine K.getf (q := 19) (v := .int (nI t.length)) fb_J5_79.r bt_0 bt_l0 rfl dJ5_append_cf1ce_16 rfl ?_
  refine K.iload_n (q := 20) dJ5_append_cf1ce_19 rfl rfl ?_
  refine K.iadd (q := 21) dJ5_append_cf1ce_20 rfl ?_
  rw [nI_add]
  refine G.callUv (av := [.int (nI (t.length + u.length))]) (S := []) (q := 24) hok umJ5_ensureCapacityInternal_d00df mw_J5_100 hens bt_l0 bt_0 rfl (by decide) rfl (Nat.le_of_ble_eq_true rfl) (by rw [Nat.zero_add]; exact Nat.le_refl _) (by rw [Nat.zero_add]; exact Nat.le_refl _) dJ5_append_cf1ce_21 rfl ?_
  refine K.aload_n (q := 25) dJ5_append_cf1ce_24 rfl rfl ?_
  refine K.aload_n (q := 26) dJ5_append_cf1ce_25 rfl rfl ?_
  refine K.getf (q := 29) (v := .int (nI t.length)) fb_J5_79.r bt_0 bt_l0 rfl dJ5_append_cf1ce_26 rfl ?_
  refine K.aload_n (q := 30) dJ5_append_cf1ce_29 rfl rfl ?_
  refine G.callUv (av := [.int (nI t.length), .ref (sa + 1000)]) (S := []) (q := 33) hok umJ5_putStringAt_47b60 mw_J5_208 (b5_put hP hok hu hl hn hm) bt_l0 bt_0 rfl (by decide) rfl (Nat.le_of_ble_eq_true rfl) (by rw [Nat.zero_add, Nat.add_zero]; exact Nat.le_refl _) (by rw [Nat.zero_add, Nat.add_zero]; exact Nat.le_refl _) dJ5_append_cf1ce_30 rfl ?_
  have l1 : 0 < (hp (sbO (pre.length + 1) t.length :: (pre ++ [arB m (ft (t ++ u))]))).2.1 := Nat.succ_pos _
  refine K.aload_n (q := 34) dJ5_append_cf1ce_33 rfl rfl ?_
  refine K.dup (q := 35) dJ5_append_cf1ce_34 rfl rfl ?_
  refine K.getf (q := 38) (fs := [.ref (pre.length + 1), .int 0, .int 0, .int (nI t.length)]) (v := .int (nI t.length)) fb_J5_79.r rfl l1 rfl dJ5_append_cf1ce_35 rfl ?_
  refine K.iload_n (q := 39) dJ5_append_cf1ce_38 rfl rfl ?_
  refine K.iadd (q := 40) dJ5_append_cf1ce_39 rfl ?_
  rw [nI_add]
  refine K.putf (fs := [.ref (pre.length + 1), .int 0, .int 0, .int (nI t.length)]) (q := 43) (H' := bt pre m (t ++ u)) fb_J5_79 rfl l1 (Nat.le_of_ble_eq_true rfl) (fun _ => rfl) (fun _ => rfl) (by unfold bt; rw [List.length_append]; exact bt_p0) dJ5_append_cf1ce_40 rfl ?_
  refine K.aload_n (q := 44) dJ5_append_cf1ce_43 rfl rfl ?_
  exact C.aret rfl (Or.inr ⟨_, rfl⟩) rfl rfl (by rw [Nat.zero_add, Nat.add_zero]; exact Nat.le_refl _) (by rw [Nat.zero_add, Nat.add_zero]; exact Nat.le_refl _) dJ5_append_cf1ce_44
theorem b4_aps {p0 : List mC} {m0 mc ms : Nat} (hP : ∀ g s, Pr g s → PrS sa sd u g s) (hok : prOk Pr) (hu : okT u) (hl : pre.length + 2 ≤ 131) (hn : t.length + u.length ≤ m) (hm : m < 1073741824)
    (hens : CtG Pr 3 mc ms yJ5_ensureCapacityInternal_d00df (.code yJ5_ensureCapacityInternal_d00df cJ5_ensureCapacityInternal_d00df 3 none) [.ref 0, .int (nI (t.length + u.length))] (bt p0 m0 t) (.inl none) (bt pre m t)) : CtG Pr 5 mc ms yJ4_append_15ec4 (.code yJ4_append_15ec4 cJ4_append_15ec4 2 (some (.object "java/lang/StringBuilder"))) [.ref 0, .ref (sa + 1000)] (bt p0 m0 t) (.inl (some (.ref 0))) (bt pre m (t ++ u)) := by
  refine CtG.ofI (LL := [some (.ref 0), some (.ref (sa + 1000))]) mkJ4_append_15ec4.1 owJ4_append_15ec4 rfl (Nat.le_of_ble_eq_true rfl) rfl (fun Wk G C => ?_)
  have K := G.core
  refine K.aload_n (q := 1) dJ4_append_15ec4_0 rfl rfl ?_
  refine K.aload_n (q := 2) dJ4_append_15ec4_1 rfl rfl ?_
  refine G.callSU (av := [.ref (sa + 1000)]) (S := []) (q := 5) hok suJ5_append_cf1ce mw_J4_29 (b5_aps hP hok hu hl hn hm hens) bt_l0 bt_0 rfl (by decide) rfl (Nat.le_of_ble_eq_true rfl) (by rw [Nat.zero_add]; exact Nat.le_refl _) (by rw [Nat.zero_add]; exact Nat.le_refl _) dJ4_append_15ec4_2 rfl ?_
  refine K.pop (q := 6) dJ4_append_15ec4_5 rfl rfl ?_
  refine K.aload_n (q := 7) dJ4_append_15ec4_6 rfl rfl ?_
  exact C.aret rfl (Or.inr ⟨_, rfl⟩) rfl rfl (by rw [Nat.zero_add]; exact Nat.le_refl _) (by rw [Nat.zero_add]; exact Nat.le_refl _) dJ4_append_15ec4_7
theorem b6_siz {v : Nat} (hv : v < 100) (H : aH) : CtG Pr 1 0 0 yJ6_stringSize_0f7a4 (.code yJ6_stringSize_0f7a4 cJ6_stringSize_0f7a4 4 (some (.int))) [.int (nI v)] H (.inl (some (.int (nI (dgn v))))) H := by
  refine CtG.ofI (LL := [some (.int (nI v)), none, none, none]) mkJ6_stringSize_0f7a4.1 owJ6_stringSize_0f7a4 rfl (Nat.le_of_ble_eq_true rfl) rfl (fun Wk G C => ?_)
  have K := G.core
  obtain ⟨f1, f2, f3, f4, f5, -⟩ := dg_facts v hv
  refine K.iconst (q := 1) (v := 1) dJ6_stringSize_0f7a4_0 rfl (by decide) ?_
  refine K.istore_n (i := 1) (q := 2) dJ6_stringSize_0f7a4_1 rfl rfl (by decide) rfl ?_
  refine K.iload_n (q := 3) dJ6_stringSize_0f7a4_2 rfl rfl ?_
  refine K.if_lt (q := 6) (tgt := 11) dJ6_stringSize_0f7a4_3 rfl (by decide) (fun h => absurd h f1) (fun _ => ?_)
  refine K.iconst (q := 7) (v := 0) dJ6_stringSize_0f7a4_6 rfl (by decide) ?_
  refine K.istore_n (i := 1) (q := 8) dJ6_stringSize_0f7a4_7 rfl rfl (by decide) rfl ?_
  refine K.iload_n (q := 9) dJ6_stringSize_0f7a4_8 rfl rfl ?_
  refine K.ineg (q := 10) dJ6_stringSize_0f7a4_9 rfl ?_
  refine K.istore_n (i := 0) (q := 11) dJ6_stringSize_0f7a4_10 rfl rfl (by decide) rfl ?_
  refine K.bipush (q := 13) (v := -10) dJ6_stringSize_0f7a4_11 rfl (by decide) ?_
  refine K.istore_n (i := 2) (q := 14) dJ6_stringSize_0f7a4_13 rfl rfl (by decide) rfl ?_
  refine K.iconst (q := 15) (v := 1) dJ6_stringSize_0f7a4_14 rfl (by decide) ?_
  refine K.istore_n (i := 3) (q := 16) dJ6_stringSize_0f7a4_15 rfl rfl (by decide) rfl ?_
  refine K.iload_n (q := 17) dJ6_stringSize_0f7a4_16 rfl rfl ?_
  refine K.bipush (q := 19) (v := 10) dJ6_stringSize_0f7a4_17 rfl (by decide) ?_
  refine K.icmp_ge (q := 22) (tgt := 42) dJ6_stringSize_0f7a4_19 rfl (by decide) (fun h => absurd h (by decide)) (fun _ => ?_)
  refine K.iload_n (q := 23) dJ6_stringSize_0f7a4_22 rfl rfl ?_
  refine K.iload_n (q := 24) dJ6_stringSize_0f7a4_23 rfl rfl ?_
  refine K.icmp_le (q := 27) (tgt := 31) dJ6_stringSize_0f7a4_24 rfl (by decide) (fun hle => ?_) (fun hgt => ?_)
  · have hv2 : 10 ≤ v := Nat.le_of_not_lt (fun h => absurd (f4 h).1 (Int32.not_lt.mpr hle))
    refine K.bipush (q := 33) (v := 10) dJ6_stringSize_0f7a4_31 rfl (by decide) ?_
    refine K.iload_n (q := 34) dJ6_stringSize_0f7a4_33 rfl rfl ?_
    refine K.imul (q := 35) dJ6_stringSize_0f7a4_34 rfl ?_
    refine K.istore_n (i := 2) (q := 36) dJ6_stringSize_0f7a4_35 rfl rfl (by decide) rfl ?_
    refine K.iinc (q := 39) (v := 2) dJ6_stringSize_0f7a4_36 rfl rfl (by decide) (by decide) rfl ?_
    refine K.goto (tgt := 16) dJ6_stringSize_0f7a4_39 (by decide) ?_
    refine K.iload_n (q := 17) dJ6_stringSize_0f7a4_16 rfl rfl ?_
    refine K.bipush (q := 19) (v := 10) dJ6_stringSize_0f7a4_17 rfl (by decide) ?_
    refine K.icmp_ge (q := 22) (tgt := 42) dJ6_stringSize_0f7a4_19 rfl (by decide) (fun h => absurd h (by decide)) (fun _ => ?_)
    refine K.iload_n (q := 23) dJ6_stringSize_0f7a4_22 rfl rfl ?_
    refine K.iload_n (q := 24) dJ6_stringSize_0f7a4_23 rfl rfl ?_
    rw [show (10 : Int32) * -10 = -100 by decide]
    refine K.icmp_le (q := 27) (tgt := 31) dJ6_stringSize_0f7a4_24 rfl (by decide) (fun h => absurd f2 (Int32.not_lt.mpr h)) (fun _ => ?_)
    refine K.iload_n (q := 28) dJ6_stringSize_0f7a4_27 rfl rfl ?_
    refine K.iload_n (q := 29) dJ6_stringSize_0f7a4_28 rfl rfl ?_
    refine K.iadd (q := 30) dJ6_stringSize_0f7a4_29 rfl ?_
    rw [show (2 : Int32) + 0 = nI (dgn v) by unfold dgn; rw [if_neg (by omega)]; decide]
    exact C.iret rfl rfl rfl rfl (Nat.le_of_ble_eq_true rfl) (Nat.le_of_ble_eq_true rfl) dJ6_stringSize_0f7a4_30
  · have hv2 : v < 10 := Nat.lt_of_not_le (fun h => hgt (Int32.not_lt.mp (f5 h).1))
    refine K.iload_n (q := 28) dJ6_stringSize_0f7a4_27 rfl rfl ?_
    refine K.iload_n (q := 29) dJ6_stringSize_0f7a4_28 rfl rfl ?_
    refine K.iadd (q := 30) dJ6_stringSize_0f7a4_29 rfl ?_
    rw [show (1 : Int32) + 0 = nI (dgn v) by unfold dgn; rw [if_pos hv2]; decide]
    exact C.iret rfl rfl rfl rfl (Nat.le_of_ble_eq_true rfl) (Nat.le_of_ble_eq_true rfl) dJ6_stringSize_0f7a4_30
theorem b6_chr {v : Nat} (hD : PrD Pr t1 t2) (hv : v < 100) (hl : pre.length + 2 ≤ 131) (hn : t.length + dgn v ≤ m) (hm : m < 1073741824) : CtG Pr 1 0 0 yJ6_getChars_ba4f3 (.code yJ6_getChars_ba4f3 cJ6_getChars_ba4f3 7 (some (.int))) [.int (nI v), .int (nI (t.length + dgn v)), .ref (pre.length + 1)] (bt pre m t) (.inl (some (.int (nI t.length)))) (hp (sbO (pre.length + 1) t.length :: (pre ++ [arB m (ft (t ++ dgs v))]))) := by
  refine CtG.ofI (LL := [some (.int (nI v)), some (.int (nI (t.length + dgn v))), some (.ref (pre.length + 1)), none, none, none, none]) mkJ6_getChars_ba4f3.1 owJ6_getChars_ba4f3 rfl (Nat.le_of_ble_eq_true rfl) rfl (fun Wk G C => ?_)
  have K := G.core
  obtain ⟨f1, f2, f3, f4, f5, f6, f7⟩ := dg_facts v hv
  obtain ⟨hok, -, z1, z2, a1, a2⟩ := hD
  have hdn : dgn v ≤ 2 := by unfold dgn; split <;> omega
  have hdn1 : 1 ≤ dgn v := by unfold dgn; split <;> omega
  refine K.iload_n (q := 1) dJ6_getChars_ba4f3_0 rfl rfl ?_
  refine K.istore (i := 5) (q := 3) dJ6_getChars_ba4f3_1 rfl (by decide) rfl ?_
  refine K.iload_n (q := 4) dJ6_getChars_ba4f3_3 rfl rfl ?_
  refine K.if_ge (q := 7) (tgt := 11) dJ6_getChars_ba4f3_4 rfl (by decide) (fun _ => ?_) (fun h => absurd (Int32.not_lt.mp f1) h)
  refine K.iconst (q := 12) (v := 0) dJ6_getChars_ba4f3_11 rfl (by decide) ?_
  refine K.istore (i := 6) (q := 14) dJ6_getChars_ba4f3_12 rfl (by decide) rfl ?_
  refine K.iload (q := 16) dJ6_getChars_ba4f3_14 rfl rfl ?_
  refine K.if_ne (q := 19) (tgt := 22) dJ6_getChars_ba4f3_16 rfl (by decide) (fun h => absurd rfl h) (fun _ => ?_)
  refine K.iload_n (q := 20) dJ6_getChars_ba4f3_19 rfl rfl ?_
  refine K.ineg (q := 21) dJ6_getChars_ba4f3_20 rfl ?_
  refine K.istore_n (i := 0) (q := 22) dJ6_getChars_ba4f3_21 rfl rfl (by decide) rfl ?_
  refine K.iload_n (q := 23) dJ6_getChars_ba4f3_22 rfl rfl ?_
  refine K.bipush (q := 25) (v := -100) dJ6_getChars_ba4f3_23 rfl (by decide) ?_
  refine K.icmp_gt (q := 28) (tgt := 72) dJ6_getChars_ba4f3_25 rfl (by decide) (fun _ => ?_) (fun h => absurd f2 h)
  have e1 : nI (t.length + dgn v) + Int32.ofInt (-1) = nI (t.length + dgn v - 1) := by
    rw [show t.length + dgn v = (t.length + dgn v - 1) + 1 by omega, ← nI_1]
    rw [show (Int32.ofInt (-1)) = -1 by decide, Int32.add_assoc, show (1 : Int32) + -1 = 0 by decide, Int32.add_zero]; rfl
  refine K.aload_n (q := 73) dJ6_getChars_ba4f3_72 rfl rfl ?_
  refine K.iinc (q := 76) (v := nI (t.length + dgn v - 1)) dJ6_getChars_ba4f3_73 rfl rfl e1 (by decide) rfl ?_
  refine K.iload (q := 78) dJ6_getChars_ba4f3_76 rfl rfl ?_
  refine G.gets (q := 81) (v := .ref (t1 + 1000)) z1 (fun _ => rv_out) fw_J6_83 dJ6_getChars_ba4f3_78 rfl ?_
  refine K.iload_n (q := 82) dJ6_getChars_ba4f3_81 rfl rfl ?_
  refine K.ineg (q := 83) dJ6_getChars_ba4f3_82 rfl ?_
  rw [f3]
  refine G.balO (q := 84) (f := fun j => nI (48 + j % 10)) a1 hv (by decide) dJ6_getChars_ba4f3_83 rfl ?_
  by_cases hv2 : v < 10
  · have ed : dgn v = 1 := by unfold dgn; rw [if_pos hv2]
    have es : dgs v = [nI (48 + v % 10)] := by unfold dgs; rw [if_pos hv2]
    rw [ed] at hn
    rw [ed, Nat.add_sub_cancel]
    refine K.bast (H' := hp (sbO (pre.length + 1) t.length :: (pre ++ [arB m (ft (t ++ [nI (48 + v % 10)]))]))) (q := 85) bt_i bt_li (by omega) (by omega) (by rw [f6, ft_1]; exact bt_pi) dJ6_getChars_ba4f3_84 rfl ?_
    refine K.iload_n (q := 86) dJ6_getChars_ba4f3_85 rfl rfl ?_
    refine K.bipush (q := 88) (v := -9) dJ6_getChars_ba4f3_86 rfl (by decide) ?_
    refine K.icmp_ge (q := 91) (tgt := 104) dJ6_getChars_ba4f3_88 rfl (by decide) (fun _ => ?_) (fun h => absurd (f4 hv2).2 h)
    refine K.iload (q := 106) dJ6_getChars_ba4f3_104 rfl rfl ?_
    refine K.if_eq (q := 109) (tgt := 118) dJ6_getChars_ba4f3_106 rfl (by decide) (fun _ => ?_) (fun h => absurd rfl h)
    refine K.iload (q := 120) dJ6_getChars_ba4f3_118 rfl rfl ?_
    exact C.iret rfl rfl rfl (by rw [es]) (Nat.le_of_ble_eq_true rfl) (Nat.le_of_ble_eq_true rfl) dJ6_getChars_ba4f3_120
  · have ed : dgn v = 2 := by unfold dgn; rw [if_neg hv2]
    have es : dgs v = [nI (48 + v / 10), nI (48 + v % 10)] := by unfold dgs; rw [if_neg hv2]
    rw [ed] at hn
    rw [ed, show t.length + 2 - 1 = t.length + 1 from rfl]
    refine K.bast (H' := hp (sbO (pre.length + 1) t.length :: (pre ++ [arB m (upd (ft t) (t.length + 1) (nI (48 + v % 10)))]))) (q := 85) bt_i bt_li (by omega) (by omega) (by rw [f6]; exact bt_pi) dJ6_getChars_ba4f3_84 rfl ?_
    refine K.iload_n (q := 86) dJ6_getChars_ba4f3_85 rfl rfl ?_
    refine K.bipush (q := 88) (v := -9) dJ6_getChars_ba4f3_86 rfl (by decide) ?_
    refine K.icmp_ge (q := 91) (tgt := 104) dJ6_getChars_ba4f3_88 rfl (by decide) (fun h => absurd h (f5 (by omega)).2.2) (fun _ => ?_)
    refine K.aload_n (q := 92) dJ6_getChars_ba4f3_91 rfl rfl ?_
    refine K.iinc (q := 95) (v := nI t.length) dJ6_getChars_ba4f3_92 rfl rfl (by rw [← nI_1, show (Int32.ofInt (-1)) = -1 by decide, Int32.add_assoc, show (1 : Int32) + -1 = 0 by decide, Int32.add_zero]) (by decide) rfl ?_
    refine K.iload (q := 97) dJ6_getChars_ba4f3_95 rfl rfl ?_
    refine G.gets (q := 100) (v := .ref (t2 + 1000)) z2 (fun _ => rv_out) fw_J6_87 dJ6_getChars_ba4f3_97 rfl ?_
    refine K.iload_n (q := 101) dJ6_getChars_ba4f3_100 rfl rfl ?_
    refine K.ineg (q := 102) dJ6_getChars_ba4f3_101 rfl ?_
    rw [f3]
    refine G.balO (q := 103) (f := fun j => nI (48 + j / 10)) a2 hv (by decide) dJ6_getChars_ba4f3_102 rfl ?_
    refine K.bast (i := pre.length + 1) (len := m) (f := upd (ft t) (t.length + 1) (nI (48 + v % 10))) (H' := hp (sbO (pre.length + 1) t.length :: (pre ++ [arB m (ft (t ++ [nI (48 + v / 10), nI (48 + v % 10)]))]))) (q := 104) (by simp [hp]) (by simp [hp]) (by omega) (by omega) (by rw [f7, ft_2]; exact hps (by simp) (by simp)) dJ6_getChars_ba4f3_103 rfl ?_
    refine K.iload (q := 106) dJ6_getChars_ba4f3_104 rfl rfl ?_
    refine K.if_eq (q := 109) (tgt := 118) dJ6_getChars_ba4f3_106 rfl (by decide) (fun _ => ?_) (fun h => absurd rfl h)
    refine K.iload (q := 120) dJ6_getChars_ba4f3_118 rfl rfl ?_
    exact C.iret rfl rfl rfl (by rw [es]) (Nat.le_of_ble_eq_true rfl) (Nat.le_of_ble_eq_true rfl) dJ6_getChars_ba4f3_120
theorem b5_api {v : Nat} (hD : PrD Pr t1 t2) (hv : v < 100) (hl : pre.length + 2 ≤ 131) (hn : t.length + dgn v ≤ m) (hm : m < 1073741824) : CtG Pr 4 0 0 yJ5_append_c97b9 (.code yJ5_append_c97b9 cJ5_append_c97b9 4 (some (.object "java/lang/AbstractStringBuilder"))) [.ref 0, .int (nI v)] (bt pre m t) (.inl (some (.ref 0))) (bt pre m (t ++ dgs v)) := by
  refine CtG.ofI (LL := [some (.ref 0), some (.int (nI v)), none, none]) suJ5_append_c97b9.1 owJ5_append_c97b9 rfl (Nat.le_of_ble_eq_true rfl) rfl (fun Wk G C => ?_)
  have K := G.core
  have hok := hD.1
  refine K.aload_n (q := 1) dJ5_append_c97b9_0 rfl rfl ?_
  refine K.getf (q := 4) (v := .int (nI t.length)) fb_J5_79.r bt_0 bt_l0 rfl dJ5_append_c97b9_1 rfl ?_
  refine K.istore_n (i := 2) (q := 5) dJ5_append_c97b9_4 rfl rfl (by decide) rfl ?_
  refine K.iload_n (q := 6) dJ5_append_c97b9_5 rfl rfl ?_
  refine K.iload_n (q := 7) dJ5_append_c97b9_6 rfl rfl ?_
  refine G.callS (av := [.int (nI v)]) (S := [.int (nI t.length)]) (q := 10) hok mkJ6_stringSize_0f7a4 mw_J5_245 (b6_siz hv _) rfl (by decide) rfl (Nat.le_of_ble_eq_true rfl) (Nat.le_of_ble_eq_true rfl) (Nat.le_of_ble_eq_true rfl) dJ5_append_c97b9_7 rfl ?_
  refine K.iadd (q := 11) dJ5_append_c97b9_10 rfl ?_
  rw [nI_add]
  refine K.istore_n (i := 3) (q := 12) dJ5_append_c97b9_11 rfl rfl (by decide) rfl ?_
  refine K.aload_n (q := 13) dJ5_append_c97b9_12 rfl rfl ?_
  refine K.iload_n (q := 14) dJ5_append_c97b9_13 rfl rfl ?_
  refine G.callUv (av := [.int (nI (t.length + dgn v))]) (S := []) (q := 17) hok umJ5_ensureCapacityInternal_d00df mw_J5_100 (b5_ens0 (mc := 0) (ms := 0) bt_0 bt_l0 bt_i bt_li hn hm) bt_l0 bt_0 rfl (by decide) rfl (Nat.le_of_ble_eq_true rfl) (Nat.le_of_ble_eq_true rfl) (Nat.le_of_ble_eq_true rfl) dJ5_append_c97b9_14 rfl ?_
  refine K.aload_n (q := 18) dJ5_append_c97b9_17 rfl rfl ?_
  refine G.callU (av := []) (S := []) (q := 21) hok umJ5_isLatin1_aae02 mw_J5_83 (b5_lat hD.2.1 bt_0 bt_l0) bt_l0 bt_0 rfl (by decide) rfl (Nat.le_of_ble_eq_true rfl) (Nat.le_of_ble_eq_true rfl) (Nat.le_of_ble_eq_true rfl) dJ5_append_c97b9_18 rfl ?_
  refine K.if_eq (q := 24) (tgt := 37) dJ5_append_c97b9_21 rfl (by decide) (fun h => absurd h (by decide)) (fun _ => ?_)
  refine K.iload_n (q := 25) dJ5_append_c97b9_24 rfl rfl ?_
  refine K.iload_n (q := 26) dJ5_append_c97b9_25 rfl rfl ?_
  refine K.aload_n (q := 27) dJ5_append_c97b9_26 rfl rfl ?_
  refine K.getf (q := 30) (v := .ref (pre.length + 1)) fb_J5_15.r bt_0 bt_l0 rfl dJ5_append_c97b9_27 rfl ?_
  refine G.callS (av := [.int (nI v), .int (nI (t.length + dgn v)), .ref (pre.length + 1)]) (S := []) (q := 33) hok mkJ6_getChars_ba4f3 mw_J5_248 (b6_chr hD hv hl hn hm) rfl (by decide) rfl (Nat.le_of_ble_eq_true rfl) (Nat.le_of_ble_eq_true rfl) (Nat.le_of_ble_eq_true rfl) dJ5_append_c97b9_30 rfl ?_
  refine K.pop (q := 34) dJ5_append_c97b9_33 rfl rfl ?_
  refine K.goto (tgt := 48) dJ5_append_c97b9_34 (by decide) ?_
  have l1 : 0 < (hp (sbO (pre.length + 1) t.length :: (pre ++ [arB m (ft (t ++ dgs v))]))).2.1 := Nat.succ_pos _
  refine K.aload_n (q := 49) dJ5_append_c97b9_48 rfl rfl ?_
  refine K.iload_n (q := 50) dJ5_append_c97b9_49 rfl rfl ?_
  refine K.putf (fs := [.ref (pre.length + 1), .int 0, .int 0, .int (nI t.length)]) (q := 53) (H' := bt pre m (t ++ dgs v)) fb_J5_79 rfl l1 (Nat.le_of_ble_eq_true rfl) (fun _ => rfl) (fun _ => rfl) (by unfold bt; rw [List.length_append, dgs_len]; exact bt_p0) dJ5_append_c97b9_50 rfl ?_
  refine K.aload_n (q := 54) dJ5_append_c97b9_53 rfl rfl ?_
  exact C.aret rfl (Or.inr ⟨_, rfl⟩) rfl rfl (Nat.le_of_ble_eq_true rfl) (Nat.le_of_ble_eq_true rfl) dJ5_append_c97b9_54
theorem b4_api {v : Nat} (hD : PrD Pr t1 t2) (hv : v < 100) (hl : pre.length + 2 ≤ 131) (hn : t.length + dgn v ≤ m) (hm : m < 1073741824) : CtG Pr 5 0 0 yJ4_append_bf812 (.code yJ4_append_bf812 cJ4_append_bf812 2 (some (.object "java/lang/StringBuilder"))) [.ref 0, .int (nI v)] (bt pre m t) (.inl (some (.ref 0))) (bt pre m (t ++ dgs v)) := by
  refine CtG.ofI (LL := [some (.ref 0), some (.int (nI v))]) mkJ4_append_bf812.1 owJ4_append_bf812 rfl (Nat.le_of_ble_eq_true rfl) rfl (fun Wk G C => ?_)
  have K := G.core
  refine K.aload_n (q := 1) dJ4_append_bf812_0 rfl rfl ?_
  refine K.iload_n (q := 2) dJ4_append_bf812_1 rfl rfl ?_
  refine G.callSU (av := [.int (nI v)]) (S := []) (q := 5) hD.1 suJ5_append_c97b9 mw_J4_53 (b5_api hD hv hl hn hm) bt_l0 bt_0 rfl (by decide) rfl (Nat.le_of_ble_eq_true rfl) (Nat.le_of_ble_eq_true rfl) (Nat.le_of_ble_eq_true rfl) dJ4_append_bf812_2 rfl ?_
  refine K.pop (q := 6) dJ4_append_bf812_5 rfl rfl ?_
  refine K.aload_n (q := 7) dJ4_append_bf812_6 rfl rfl ?_
  exact C.aret rfl (Or.inr ⟨_, rfl⟩) rfl rfl (Nat.le_of_ble_eq_true rfl) (Nat.le_of_ble_eq_true rfl) dJ4_append_bf812_7
end
