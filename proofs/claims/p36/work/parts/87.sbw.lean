/-! ===== p36: StringBuilder's methods ===== -/
abbrev sbO (i n : Nat) : mC := .inr (10, [.ref i, .int 0, .int 0, .int (nI n)])
abbrev arB (m : Nat) (f : Nat → Int32) : mC := .inl (2, m, .inl f)
def ft (t : List Int32) : Nat → Int32 := fun j => t.getD j 0
def bt (pre : List mC) (m : Nat) (t : List Int32) : aH := hp (sbO (pre.length + 1) t.length :: (pre ++ [arB m (ft t)]))
def okT (t : List Int32) : Prop := ∀ x ∈ t, fits .byte (.int x) = true
theorem hps {ds ds' : List mC} {q : Nat} {c : mC} (hq : q < ds.length) (hd : ds.set q c = ds') : sH (hp ds) q c = hp ds' := by
  have h := hp_set (cs := []) (a := 0) rfl hq hd
  simpa using h
section
variable {pre : List mC} {m : Nat} {t u : List Int32}
theorem bt_top : (bt pre m t).2.1 = pre.length + 2 := by simp [bt, hp]
theorem bt_l0 : 0 < (bt pre m t).2.1 := by rw [bt_top]; omega
theorem bt_li : pre.length + 1 < (bt pre m t).2.1 := by rw [bt_top]; omega
theorem bt_0 : (bt pre m t).2.2 0 = sbO (pre.length + 1) t.length := rfl
theorem bt_i : (bt pre m t).2.2 (pre.length + 1) = arB m (ft t) := by simp [bt, hp]
theorem bt_pi {f' : Nat → Int32} {n : Nat} : sH (hp (sbO (pre.length + 1) n :: (pre ++ [arB m (ft t)]))) (pre.length + 1) (arB m f') = hp (sbO (pre.length + 1) n :: (pre ++ [arB m f'])) :=
  hps (by simp) (by simp)
theorem bt_p0 {f : Nat → Int32} {n n' : Nat} : sH (hp (sbO (pre.length + 1) n :: (pre ++ [arB m f]))) 0 (sbO (pre.length + 1) n') = hp (sbO (pre.length + 1) n' :: (pre ++ [arB m f])) :=
  hps (by simp) rfl
theorem ft_app : va_cpy (ft u) (ft t) 0 t.length u.length = ft (t ++ u) := by
  funext j
  unfold va_cpy ft
  simp only [List.getD_eq_getElem?_getD, Nat.zero_add]
  by_cases h1 : t.length ≤ j
  · rw [List.getElem?_append_right h1]
    by_cases h2 : j < t.length + u.length
    · rw [if_pos ⟨h1, h2⟩]
    · rw [if_neg (fun h => h2 h.2), List.getElem?_eq_none h1, List.getElem?_eq_none (by omega)]
  · rw [if_neg (fun h => h1 h.1), List.getElem?_append_left (by omega)]
theorem ft_cpy {n : Nat} (h : t.length ≤ n) : va_cpy (ft t) (fun _ => 0) 0 0 n = ft t := by
  funext j
  unfold va_cpy ft
  simp only [List.getD_eq_getElem?_getD, Nat.zero_add, Nat.sub_zero]
  by_cases h2 : j < n
  · rw [if_pos ⟨Nat.zero_le _, h2⟩]
  · rw [if_neg (fun h => h2 h.2), List.getElem?_eq_none (by omega)]; rfl
theorem ft_1 {x : Int32} : upd (ft t) t.length x = ft (t ++ [x]) := by
  funext j
  unfold upd ft
  simp only [List.getD_eq_getElem?_getD]
  by_cases h1 : j < t.length
  · rw [if_neg (by omega), List.getElem?_append_left h1]
  · rw [List.getElem?_append_right (by omega)]
    by_cases h2 : j = t.length
    · rw [if_pos h2, h2, Nat.sub_self]; rfl
    · rw [if_neg h2, List.getElem?_eq_none (by omega), List.getElem?_eq_none (by simp; omega)]
theorem ft_2 {x y : Int32} : upd (upd (ft t) (t.length + 1) y) t.length x = ft (t ++ [x, y]) := by
  rw [show t ++ [x, y] = (t ++ [x]) ++ [y] by simp, ← ft_1, ← ft_1]
  funext j
  unfold upd
  simp only [List.length_append, List.length_singleton]
  by_cases h1 : j = t.length
  · rw [if_pos h1, if_neg (by omega), if_pos h1]
  · rw [if_neg h1]
    by_cases h2 : j = t.length + 1
    · rw [if_pos h2, if_pos h2]
    · rw [if_neg h2, if_neg h2, if_neg h1]
theorem ft_fit (h : okT t) (j : Nat) : fits .byte (.int (ft t j)) = true := by
  unfold ft
  rw [List.getD_eq_getElem?_getD]
  cases e : t[j]? with
  | none => rfl
  | some x => exact h x (List.mem_of_getElem? e)
end
theorem OkM.areta {own : String} {cc : ByteArray} {nL d kc ks : Nat} {Wk : tW} {k n pc : Nat} {L : List (Option Value)} {H H' : aH} {ret : Option FieldType} {tab : List (Nat × Nat × Nat × Nat)} {ini : Bool} {r : rR} (C : OkM own cc nL d kc ks ret tab ini r H' Wk) {a : Nat} (hr : ret = some (.array .byte)) (hv : r = .inl (some (.ref a))) (hH : H = H') (hk : k ≤ kc) (hs : n ≤ ks) (dg : decode cc pc = .ok (.areturn, 1)) : Wk k n pc L [.ref a] H := by
  obtain ⟨p, l, e, R, s, m, args, below, meth, c, g, ca, D, sL, X, -, hret, -, rfl⟩ := C
  subst hv; subst hH
  intro Hr locs ls hN hS hl
  refine W.widen hk hs ?_
  exact vx_ret (W.aret (v := rv g (.ref a)) X.exec X.code (hret.trans hr) (Or.inr ⟨_, rfl⟩) (Or.inr ⟨_, rfl⟩) (fun t ht _ => ⟨_, rfl, rfl, by rw [ht]; exact hN, hS.F ht⟩) hS.2.2 dg X.locks)
section
variable {Pr : PrT} {own : String} {cc : ByteArray} {nL d kc ks : Nat} {Wk : tW} {k n pc q : Nat} {L : List (Option Value)} {S St : List Value} {H H' H2 : aH} {ret : Option FieldType} {r : rR}
variable {y : MethodName} {cb : ByteArray} {mL na idx d' mc ms a ci : Nat} {rt : Option FieldType} {av : List Value}
theorem CoG.callVov (C : CoG Pr own cc nL d kc ks Wk) (hok : prOk Pr) (hO : ∀ g s, Pr g s → va_O y.cls a (aD g) s s.heap) (hm : VM y cb mL rt na ci) (hw : wok (.methodLink own idx y)) (hc : CtG Pr d' mc ms y (.code y cb mL rt) (.ref (a + 1000) :: av) H (.inl none) H') (hst : St = av.reverse ++ .ref (a + 1000) :: S) (hd : d' + 1 ≤ d) (hna : av.length = na) (hsum : (S.map fun v => v.category).sum ≤ 8) (hk : k + mc ≤ kc) (hn : n + ms ≤ ks) (dg : decode cc pc = .ok (.invokevirtual idx, 3)) (hq : pc + 3 = q)
    (kk : Wk (k + mc) (n + ms) q L S H') : Wk k n pc L St H := by
  obtain ⟨p, l, e, R, s, m, args, below, meth, c, Q, g, ca, D, sL, X, hPr, rfl⟩ := C
  subst hq; subst hst
  intro Hr locs ls hN hS hl
  obtain ⟨h1, h2, h3, h4, h5, T, N, h6⟩ := hm
  exact run_done (X.runVo hok hPr h1 h2 h3 h4 hw hc hd h5 hna (hO g s hPr) hsum hk hn dg hN hS hl) hS (fun H1 locs1 hw1 hS1 => kk H1 locs1 ls hw1 hS1 hl)
end
section
variable {Pr : PrT} {H : aH} {i n m : Nat} {f : Nat → Int32}
theorem b5_lat (hZ : ∀ g s, Pr g s → va_Z "java/lang/String" "COMPACT_STRINGS" "Z" (.int 1) (aD g) s s.heap) (h0 : H.2.2 0 = sbO i n) (l0 : 0 < H.2.1) : CtG Pr 1 0 0 yJ5_isLatin1_aae02 (.code yJ5_isLatin1_aae02 cJ5_isLatin1_aae02 1 (some (.boolean))) [.ref 0] H (.inl (some (.int 1))) H := by
  refine CtG.ofI (LL := [some (.ref 0)]) umJ5_isLatin1_aae02.1 owJ5_isLatin1_aae02 rfl (Nat.le_of_ble_eq_true rfl) rfl (fun Wk G C => ?_)
  have K := G.core
  refine G.gets (q := 3) (v := .int 1) hZ (fun _ => rfl) fw_J5_18 dJ5_isLatin1_aae02_0 rfl ?_
  refine K.if_eq (q := 6) (tgt := 17) dJ5_isLatin1_aae02_3 rfl (by decide) (fun h => absurd h (by decide)) (fun _ => ?_)
  refine K.aload_n (q := 7) dJ5_isLatin1_aae02_6 rfl rfl ?_
  refine K.getf (q := 10) (v := .int 0) fb_J5_22.r h0 l0 rfl dJ5_isLatin1_aae02_7 rfl ?_
  refine K.if_ne (q := 13) (tgt := 17) dJ5_isLatin1_aae02_10 rfl (by decide) (fun h => absurd rfl h) (fun _ => ?_)
  refine K.iconst (q := 14) (v := 1) dJ5_isLatin1_aae02_13 rfl (by decide) ?_
  refine K.goto (tgt := 18) dJ5_isLatin1_aae02_14 (by decide) ?_
  exact C.iret rfl rfl rfl rfl (Nat.le_of_ble_eq_true rfl) (Nat.le_of_ble_eq_true rfl) dJ5_isLatin1_aae02_18
theorem b5_len (h0 : H.2.2 0 = sbO i n) (l0 : 0 < H.2.1) : CtG Pr 1 0 0 yJ5_length_8abf5 (.code yJ5_length_8abf5 cJ5_length_8abf5 1 (some (.int))) [.ref 0] H (.inl (some (.int (nI n)))) H := by
  refine CtG.ofI (LL := [some (.ref 0)]) suJ5_length_8abf5.1 owJ5_length_8abf5 rfl (Nat.le_of_ble_eq_true rfl) rfl (fun Wk G C => ?_)
  have K := G.core
  refine K.aload_n (q := 1) dJ5_length_8abf5_0 rfl rfl ?_
  refine K.getf (q := 4) (v := .int (nI n)) fb_J5_79.r h0 l0 rfl dJ5_length_8abf5_1 rfl ?_
  exact C.iret rfl rfl rfl rfl (Nat.le_of_ble_eq_true rfl) (Nat.le_of_ble_eq_true rfl) dJ5_length_8abf5_4
theorem b4_len (hok : prOk Pr) (h0 : H.2.2 0 = sbO i n) (l0 : 0 < H.2.1) : CtG Pr 2 0 0 yJ4_length_8abf5 (.code yJ4_length_8abf5 cJ4_length_8abf5 1 (some (.int))) [.ref 0] H (.inl (some (.int (nI n)))) H := by
  refine CtG.ofI (LL := [some (.ref 0)]) umJ5_length_8abf5.1 owJ4_length_8abf5 rfl (Nat.le_of_ble_eq_true rfl) rfl (fun Wk G C => ?_)
  have K := G.core
  refine K.aload_n (q := 1) dJ4_length_8abf5_0 rfl rfl ?_
  refine G.callSU (av := []) (S := []) (q := 4) hok suJ5_length_8abf5 mw_J4_343 (b5_len h0 l0) l0 h0 rfl (by decide) rfl (Nat.le_of_ble_eq_true rfl) (Nat.le_of_ble_eq_true rfl) (Nat.le_of_ble_eq_true rfl) dJ4_length_8abf5_1 rfl ?_
  exact C.iret rfl rfl rfl rfl (Nat.le_of_ble_eq_true rfl) (Nat.le_of_ble_eq_true rfl) dJ4_length_8abf5_4
theorem b5_val (h0 : H.2.2 0 = sbO i n) (l0 : 0 < H.2.1) : CtG Pr 1 0 0 yJ5_getValue_6d5f1 (.code yJ5_getValue_6d5f1 cJ5_getValue_6d5f1 1 (some (.array .byte))) [.ref 0] H (.inl (some (.ref i))) H := by
  refine CtG.ofI (LL := [some (.ref 0)]) umJ5_getValue_6d5f1.1 owJ5_getValue_6d5f1 rfl (Nat.le_of_ble_eq_true rfl) rfl (fun Wk G C => ?_)
  have K := G.core
  refine K.aload_n (q := 1) dJ5_getValue_6d5f1_0 rfl rfl ?_
  refine K.getf (q := 4) (v := .ref i) fb_J5_15.r h0 l0 rfl dJ5_getValue_6d5f1_1 rfl ?_
  exact C.areta rfl rfl rfl (Nat.le_of_ble_eq_true rfl) (Nat.le_of_ble_eq_true rfl) dJ5_getValue_6d5f1_4
theorem b5_ens0 {mc ms q : Nat} (h0 : H.2.2 0 = sbO i n) (l0 : 0 < H.2.1) (hi : H.2.2 i = arB m f) (li : i < H.2.1) (hq : q ≤ m) (hm : m < 1073741824) : CtG Pr 3 mc ms yJ5_ensureCapacityInternal_d00df (.code yJ5_ensureCapacityInternal_d00df cJ5_ensureCapacityInternal_d00df 3 none) [.ref 0, .int (nI q)] H (.inl none) H := by
  refine CtG.ofI (LL := [some (.ref 0), some (.int (nI q)), none]) umJ5_ensureCapacityInternal_d00df.1 owJ5_ensureCapacityInternal_d00df rfl (Nat.le_of_ble_eq_true rfl) rfl (fun Wk G C => ?_)
  have K := G.core
  have e1 : (nI q - nI m).toInt = (q : Int) - m := pk_sub_toInt (by omega) (by omega)
  refine K.aload_n (q := 1) dJ5_ensureCapacityInternal_d00df_0 rfl rfl ?_
  refine K.getf (q := 4) (v := .ref i) fb_J5_15.r h0 l0 rfl dJ5_ensureCapacityInternal_d00df_1 rfl ?_
  refine K.alen (len := 0) (q := 5) (t := 2) (v := nI m) hi li (by decide) rfl dJ5_ensureCapacityInternal_d00df_4 rfl ?_
  refine K.aload_n (q := 6) dJ5_ensureCapacityInternal_d00df_5 rfl rfl ?_
  refine K.getf (q := 9) (v := .int 0) fb_J5_22.r h0 l0 rfl dJ5_ensureCapacityInternal_d00df_6 rfl ?_
  refine K.ishr (q := 10) dJ5_ensureCapacityInternal_d00df_9 rfl ?_
  rw [sb_shr0]
  refine K.istore_n (i := 2) (q := 11) dJ5_ensureCapacityInternal_d00df_10 rfl rfl (by decide) rfl ?_
  refine K.iload_n (q := 12) dJ5_ensureCapacityInternal_d00df_11 rfl rfl ?_
  refine K.iload_n (q := 13) dJ5_ensureCapacityInternal_d00df_12 rfl rfl ?_
  refine K.isub (q := 14) dJ5_ensureCapacityInternal_d00df_13 rfl ?_
  refine K.if_le (q := 17) (tgt := 38) dJ5_ensureCapacityInternal_d00df_14 rfl (by decide) (fun _ => ?_) (fun h => absurd (by rw [Int32.le_iff_toInt_le, e1, Int32.toInt_zero]; omega) h)
  exact C.vret rfl rfl rfl (Nat.zero_le _) (Nat.zero_le _) dJ5_ensureCapacityInternal_d00df_38
theorem b8_len {q : Nat} (h1 : 16 < q) (h2 : q ≤ 34) : CtG Pr 1 0 0 yJ8_newLength_cabcc (.code yJ8_newLength_cabcc cJ8_newLength_cabcc 4 (some (.int))) [.int (nI 16), .int (nI (q - 16)), .int (nI 18)] H (.inl (some (.int (nI 34)))) H := by
  refine CtG.ofI (LL := [some (.int (nI 16)), some (.int (nI (q - 16))), some (.int (nI 18)), none]) mkJ8_newLength_cabcc.1 owJ8_newLength_cabcc rfl (Nat.le_of_ble_eq_true rfl) rfl (fun Wk G C => ?_)
  have K := G.core
  refine K.iload_n (q := 1) dJ8_newLength_cabcc_0 rfl rfl ?_
  refine K.iload_n (q := 2) dJ8_newLength_cabcc_1 rfl rfl ?_
  refine K.iload_n (q := 3) dJ8_newLength_cabcc_2 rfl rfl ?_
  refine K.mmax (q := 6) mw_J8_194 (Nat.le_of_ble_eq_true rfl) (Nat.le_of_ble_eq_true rfl) dJ8_newLength_cabcc_3 rfl (Nat.le_of_ble_eq_true rfl) (Nat.le_of_ble_eq_true rfl) ?_
  rw [show (if nI (q - 16) < nI 18 then nI 18 else nI (q - 16)) = nI 18 by
    by_cases h : q - 16 < 18
    · rw [if_pos (nI_lt h (by omega))]
    · rw [if_neg (nI_nlt (by omega) (by omega)), show q - 16 = 18 by omega]]
  refine K.iadd (q := 7) dJ8_newLength_cabcc_6 rfl ?_
  rw [show nI 16 + nI 18 = nI 34 by decide]
  refine K.istore_n (i := 3) (q := 8) dJ8_newLength_cabcc_7 rfl rfl (by decide) rfl ?_
  refine K.iconst (q := 9) (v := 0) dJ8_newLength_cabcc_8 rfl (by decide) ?_
  refine K.iload_n (q := 10) dJ8_newLength_cabcc_9 rfl rfl ?_
  refine K.icmp_ge (q := 13) (tgt := 21) dJ8_newLength_cabcc_10 rfl (by decide) (fun h => absurd h (by decide)) (fun _ => ?_)
  refine K.iload_n (q := 14) dJ8_newLength_cabcc_13 rfl rfl ?_
  refine K.ldci (q := 16) cc_J8_200 dJ8_newLength_cabcc_14 rfl ?_
  refine K.icmp_gt (q := 19) (tgt := 21) dJ8_newLength_cabcc_16 rfl (by decide) (fun h => absurd h (by decide)) (fun _ => ?_)
  refine K.iload_n (q := 20) dJ8_newLength_cabcc_19 rfl rfl ?_
  exact C.iret rfl rfl rfl rfl (Nat.le_of_ble_eq_true rfl) (Nat.le_of_ble_eq_true rfl) dJ8_newLength_cabcc_20
theorem b5_cap {q : Nat} (hok : prOk Pr) (h0 : H.2.2 0 = sbO i n) (l0 : 0 < H.2.1) (hi : H.2.2 i = arB 16 f) (li : i < H.2.1) (h1 : 16 < q) (h2 : q ≤ 34) : CtG Pr 2 0 0 yJ5_newCapacity_0f7a4 (.code yJ5_newCapacity_0f7a4 cJ5_newCapacity_0f7a4 6 (some (.int))) [.ref 0, .int (nI q)] H (.inl (some (.int (nI 34)))) H := by
  refine CtG.ofI (LL := [some (.ref 0), some (.int (nI q)), none, none, none, none]) umJ5_newCapacity_0f7a4.1 owJ5_newCapacity_0f7a4 rfl (Nat.le_of_ble_eq_true rfl) rfl (fun Wk G C => ?_)
  have K := G.core
  refine K.aload_n (q := 1) dJ5_newCapacity_0f7a4_0 rfl rfl ?_
  refine K.getf (q := 4) (v := .ref i) fb_J5_15.r h0 l0 rfl dJ5_newCapacity_0f7a4_1 rfl ?_
  refine K.alen (len := 0) (q := 5) (t := 2) (v := nI 16) hi li (by decide) rfl dJ5_newCapacity_0f7a4_4 rfl ?_
  refine K.istore_n (i := 2) (q := 6) dJ5_newCapacity_0f7a4_5 rfl rfl (by decide) rfl ?_
  refine K.iload_n (q := 7) dJ5_newCapacity_0f7a4_6 rfl rfl ?_
  refine K.aload_n (q := 8) dJ5_newCapacity_0f7a4_7 rfl rfl ?_
  refine K.getf (q := 11) (v := .int 0) fb_J5_22.r h0 l0 rfl dJ5_newCapacity_0f7a4_8 rfl ?_
  refine K.ishl (q := 12) dJ5_newCapacity_0f7a4_11 rfl ?_
  rw [sb_shl0]
  refine K.istore_n (i := 3) (q := 13) dJ5_newCapacity_0f7a4_12 rfl rfl (by decide) rfl ?_
  refine K.iload_n (q := 14) dJ5_newCapacity_0f7a4_13 rfl rfl ?_
  refine K.iload_n (q := 15) dJ5_newCapacity_0f7a4_14 rfl rfl ?_
  refine K.isub (q := 16) dJ5_newCapacity_0f7a4_15 rfl ?_
  rw [show nI q - nI 16 = nI (q - 16) from pk_sub (by omega)]
  refine K.istore (i := 4) (q := 18) dJ5_newCapacity_0f7a4_16 rfl (by decide) rfl ?_
  refine K.iload_n (q := 19) dJ5_newCapacity_0f7a4_18 rfl rfl ?_
  refine K.iload (q := 21) dJ5_newCapacity_0f7a4_19 rfl rfl ?_
  refine K.iload_n (q := 22) dJ5_newCapacity_0f7a4_21 rfl rfl ?_
  refine K.iconst (q := 23) (v := 2) dJ5_newCapacity_0f7a4_22 rfl (by decide) ?_
  refine K.aload_n (q := 24) dJ5_newCapacity_0f7a4_23 rfl rfl ?_
  refine K.getf (q := 27) (v := .int 0) fb_J5_22.r h0 l0 rfl dJ5_newCapacity_0f7a4_24 rfl ?_
  refine K.ishl (q := 28) dJ5_newCapacity_0f7a4_27 rfl ?_
  rw [sb_shl0]
  refine K.iadd (q := 29) dJ5_newCapacity_0f7a4_28 rfl ?_
  rw [show nI 16 + (2 : Int32) = nI 18 by decide]
  refine G.callS (S := []) (q := 32) hok mkJ8_newLength_cabcc mw_J5_114 (b8_len h1 h2) rfl (by decide) rfl (Nat.le_of_ble_eq_true rfl) (Nat.le_of_ble_eq_true rfl) (Nat.le_of_ble_eq_true rfl) dJ5_newCapacity_0f7a4_29 rfl ?_
  refine K.istore (i := 5) (q := 34) dJ5_newCapacity_0f7a4_32 rfl (by decide) rfl ?_
  refine K.iload (q := 36) dJ5_newCapacity_0f7a4_34 rfl rfl ?_
  refine K.ldci (q := 38) cc_J5_39 dJ5_newCapacity_0f7a4_36 rfl ?_
  refine K.icmp_ne (q := 41) (tgt := 51) dJ5_newCapacity_0f7a4_38 rfl (by decide) (fun _ => ?_) (fun h => absurd h (by decide))
  refine K.iload (q := 53) dJ5_newCapacity_0f7a4_51 rfl rfl ?_
  refine K.aload_n (q := 54) dJ5_newCapacity_0f7a4_53 rfl rfl ?_
  refine K.getf (q := 57) (v := .int 0) fb_J5_22.r h0 l0 rfl dJ5_newCapacity_0f7a4_54 rfl ?_
  refine K.ishr (q := 58) dJ5_newCapacity_0f7a4_57 rfl ?_
  rw [sb_shr0]
  exact C.iret rfl rfl rfl rfl (Nat.le_of_ble_eq_true rfl) (Nat.le_of_ble_eq_true rfl) dJ5_newCapacity_0f7a4_58
theorem b7_copy {ds : List mC} {t : List Int32} (hi : (hp ds).2.2 i = arB 16 (ft t)) (li : i < ds.length) (hl : ds.length < 131) (ht : t.length ≤ 16) (hb : okT t) : CtG Pr 2 1 34 yJ7_copyOf_9075b (.code yJ7_copyOf_9075b cJ7_copyOf_9075b 3 (some (.array .byte))) [.ref i, .int (nI 34)] (hp ds) (.inl (some (.ref ds.length))) (hp (ds ++ [arB 34 (ft t)])) := by
  refine CtG.ofI (LL := [some (.ref i), some (.int (nI 34)), none]) mkJ7_copyOf_9075b.1 owJ7_copyOf_9075b rfl (Nat.le_of_ble_eq_true rfl) rfl (fun Wk G C => ?_)
  have K := G.core
  refine K.iload_n (q := 1) dJ7_copyOf_9075b_0 rfl rfl ?_
  refine K.aload_n (q := 2) dJ7_copyOf_9075b_1 rfl rfl ?_
  refine K.alen (len := 0) (q := 3) (t := 2) (v := nI 16) hi li (by decide) rfl dJ7_copyOf_9075b_2 rfl ?_
  refine K.icmp_ne (q := 6) (tgt := 14) dJ7_copyOf_9075b_3 rfl (by decide) (fun _ => ?_) (fun h => absurd h (by decide))
  refine K.iload_n (q := 15) dJ7_copyOf_9075b_14 rfl rfl ?_
  refine K.newa (atype := .byte) (t := 2) (N := 34) (x0 := (34, .inl (fun _ => 0))) (q := 17) cw_byte ⟨rfl, by decide⟩ (fun _ => rfl) (fun _ => rfl) (by decide) (by decide) (by decide) rfl hl (Nat.le_of_ble_eq_true rfl) (Nat.le_of_ble_eq_true rfl) dJ7_copyOf_9075b_15 rfl ?_
  rw [hp_push]
  refine K.astore_n (i := 2) (q := 18) dJ7_copyOf_9075b_17 rfl rfl (by decide) rfl ?_
  have e0 : (hp (ds ++ [arB 34 (fun _ => 0)])).2.2 i = arB 16 (ft t) := by
    have h : (ds ++ [arB 34 (fun _ => 0)])[i]? = ds[i]? := List.getElem?_append_left li
    show ((ds ++ [arB 34 (fun _ => 0)])[i]?).getD dfl = _
    rw [h]; exact hi
  have l0 : i < (hp (ds ++ [arB 34 (fun _ => 0)])).2.1 := by show i < (ds ++ [_]).length; simp; omega
  have e1 : (hp (ds ++ [arB 34 (fun _ => 0)])).2.2 ds.length = arB 34 (fun _ => 0) := by simp [hp]
  have l1 : ds.length < (hp (ds ++ [arB 34 (fun _ => 0)])).2.1 := by show _ < (ds ++ [_]).length; simp
  refine K.aload_n (q := 19) dJ7_copyOf_9075b_18 rfl rfl ?_
  refine K.iconst (q := 20) (v := 0) dJ7_copyOf_9075b_19 rfl (by decide) ?_
  refine K.aload_n (q := 21) dJ7_copyOf_9075b_20 rfl rfl ?_
  refine K.iconst (q := 22) (v := 0) dJ7_copyOf_9075b_21 rfl (by decide) ?_
  refine K.aload_n (q := 23) dJ7_copyOf_9075b_22 rfl rfl ?_
  refine K.alen (len := 0) (q := 24) (t := 2) (v := nI 16) e0 l0 (by decide) rfl dJ7_copyOf_9075b_23 rfl ?_
  refine K.iload_n (q := 25) dJ7_copyOf_9075b_24 rfl rfl ?_
  refine K.mmin (q := 28) mw_J7_304 (Nat.le_of_ble_eq_true rfl) (Nat.le_of_ble_eq_true rfl) dJ7_copyOf_9075b_25 rfl (Nat.le_of_ble_eq_true rfl) (Nat.le_of_ble_eq_true rfl) ?_
  rw [show (if nI 34 < nI 16 then nI 34 else nI 16) = nI 16 by decide]
  refine K.cpb (q := 31) (S := []) (H' := hp (ds ++ [arB 34 (ft t)])) mw_J7_150 l0 l1 e0 e1 (by decide) (by decide) (by decide) (by decide) (by decide) (fun j _ => by rw [show (0 : Int32).toNatClampNeg = 0 from rfl, Nat.zero_add]; exact ft_fit hb j) (Nat.le_of_ble_eq_true rfl) (Nat.le_of_ble_eq_true rfl) ?_ dJ7_copyOf_9075b_28 rfl ?_
  · rw [show (0 : Int32).toNatClampNeg = 0 from rfl, show (nI 16).toNatClampNeg = 16 from rfl, ft_cpy ht]
    exact hps (ds := ds ++ [arB 34 (fun _ => 0)]) (q := ds.length) (by simp) (by simp)
  refine K.aload_n (q := 32) dJ7_copyOf_9075b_31 rfl rfl ?_
  exact C.areta rfl rfl rfl (Nat.le_of_ble_eq_true rfl) (Nat.le_of_ble_eq_true rfl) dJ7_copyOf_9075b_32
theorem b5_ens1 {q : Nat} {t : List Int32} (hok : prOk Pr) (h1 : 16 < q) (h2 : q ≤ 34) (ht : t.length ≤ 16) (hb : okT t) : CtG Pr 3 1 34 yJ5_ensureCapacityInternal_d00df (.code yJ5_ensureCapacityInternal_d00df cJ5_ensureCapacityInternal_d00df 3 none) [.ref 0, .int (nI q)] (bt [] 16 t) (.inl none) (bt [arB 16 (ft t)] 34 t) := by
  refine CtG.ofI (LL := [some (.ref 0), some (.int (nI q)), none]) umJ5_ensureCapacityInternal_d00df.1 owJ5_ensureCapacityInternal_d00df rfl (Nat.le_of_ble_eq_true rfl) rfl (fun Wk G C => ?_)
  have K := G.core
  have e1 : (nI q - nI 16).toInt = (q : Int) - (16 : Nat) := pk_sub_toInt (by omega) (by omega)
  refine K.aload_n (q := 1) dJ5_ensureCapacityInternal_d00df_0 rfl rfl ?_
  refine K.getf (q := 4) (v := .ref 1) fb_J5_15.r bt_0 bt_l0 rfl dJ5_ensureCapacityInternal_d00df_1 rfl ?_
  refine K.alen (len := 0) (q := 5) (t := 2) (v := nI 16) (bt_i (pre := [])) (bt_li (pre := [])) (by decide) rfl dJ5_ensureCapacityInternal_d00df_4 rfl ?_
  refine K.aload_n (q := 6) dJ5_ensureCapacityInternal_d00df_5 rfl rfl ?_
  refine K.getf (q := 9) (v := .int 0) fb_J5_22.r bt_0 bt_l0 rfl dJ5_ensureCapacityInternal_d00df_6 rfl ?_
  refine K.ishr (q := 10) dJ5_ensureCapacityInternal_d00df_9 rfl ?_
  rw [sb_shr0]
  refine K.istore_n (i := 2) (q := 11) dJ5_ensureCapacityInternal_d00df_10 rfl rfl (by decide) rfl ?_
  refine K.iload_n (q := 12) dJ5_ensureCapacityInternal_d00df_11 rfl rfl ?_
  refine K.iload_n (q := 13) dJ5_ensureCapacityInternal_d00df_12 rfl rfl ?_
  refine K.isub (q := 14) dJ5_ensureCapacityInternal_d00df_13 rfl ?_
  refine K.if_le (q := 17) (tgt := 38) dJ5_ensureCapacityInternal_d00df_14 rfl (by decide) (fun h => absurd h (by rw [Int32.le_iff_toInt_le, e1, Int32.toInt_zero]; omega)) (fun _ => ?_)
  refine K.aload_n (q := 18) dJ5_ensureCapacityInternal_d00df_17 rfl rfl ?_
  refine K.aload_n (q := 19) dJ5_ensureCapacityInternal_d00df_18 rfl rfl ?_
  refine K.getf (q := 22) (v := .ref 1) fb_J5_15.r bt_0 bt_l0 rfl dJ5_ensureCapacityInternal_d00df_19 rfl ?_
  refine K.aload_n (q := 23) dJ5_ensureCapacityInternal_d00df_22 rfl rfl ?_
  refine K.iload_n (q := 24) dJ5_ensureCapacityInternal_d00df_23 rfl rfl ?_
  refine G.callU (av := [.int (nI q)]) (S := [.ref 1, .ref 0]) (q := 27) hok umJ5_newCapacity_0f7a4 mw_J5_104 (b5_cap hok bt_0 bt_l0 (bt_i (pre := [])) (bt_li (pre := [])) h1 h2) bt_l0 bt_0 rfl (by decide) rfl (Nat.le_of_ble_eq_true rfl) (Nat.le_of_ble_eq_true rfl) (Nat.le_of_ble_eq_true rfl) dJ5_ensureCapacityInternal_d00df_24 rfl ?_
  refine K.aload_n (q := 28) dJ5_ensureCapacityInternal_d00df_27 rfl rfl ?_
  refine K.getf (q := 31) (v := .int 0) fb_J5_22.r bt_0 bt_l0 rfl dJ5_ensureCapacityInternal_d00df_28 rfl ?_
  refine K.ishl (q := 32) dJ5_ensureCapacityInternal_d00df_31 rfl ?_
  rw [sb_shl0]
  refine G.callS (av := [.ref 1, .int (nI 34)]) (S := [.ref 0]) (q := 35) (w := .ref 2) hok mkJ7_copyOf_9075b mw_J5_108 (b7_copy (ds := [sbO 1 t.length, arB 16 (ft t)]) (i := 1) rfl (Nat.le_of_ble_eq_true rfl) (Nat.le_of_ble_eq_true rfl) ht hb) rfl (by decide) rfl (Nat.le_of_ble_eq_true rfl) (Nat.le_of_ble_eq_true rfl) (Nat.le_of_ble_eq_true rfl) dJ5_ensureCapacityInternal_d00df_32 rfl ?_
  refine K.putf (fs := [.ref 1, .int 0, .int 0, .int (nI t.length)]) (q := 38) fb_J5_15 rfl (Nat.le_of_ble_eq_true rfl) (Nat.le_of_ble_eq_true rfl) (fun _ => rfl) (fun _ => rfl) (hps (ds := [sbO 1 t.length, arB 16 (ft t), arB 34 (ft t)]) (ds' := [sbO 2 t.length, arB 16 (ft t), arB 34 (ft t)]) (Nat.le_of_ble_eq_true rfl) rfl) dJ5_ensureCapacityInternal_d00df_35 rfl ?_
  exact C.vret rfl rfl rfl (Nat.le_of_ble_eq_true rfl) (Nat.le_of_ble_eq_true rfl) dJ5_ensureCapacityInternal_d00df_38
end
