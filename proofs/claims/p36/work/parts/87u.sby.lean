/-! ===== p36: StringBuilder's methods, 3: made, told as a text ===== -/
section
variable {Pr : PrT} {H : aH} {i n m t1 t2 : Nat} {f : Nat → Int32} {pre : List mC} {t u : List Int32} {sa sd : Nat}
abbrev sbN : mC := .inr (10, [.null, .int 0, .int 0, .int 0])
theorem b5_ini (hZ : ∀ g s, Pr g s → va_Z "java/lang/String" "COMPACT_STRINGS" "Z" (.int 1) (aD g) s s.heap) : CtG Pr 1 1 16 yJ5_init_d00df (.code yJ5_init_d00df cJ5_init_d00df 2 none) [.ref 0, .int (nI 16)] (hp [sbN]) (.inl none) (bt [] 16 []) := by
  refine CtG.ofI (LL := [some (.ref 0), some (.int (nI 16))]) mkJ5_init_d00df.1 owJ5_init_d00df rfl (Nat.le_of_ble_eq_true rfl) rfl (fun Wk G C => ?_)
  have K := G.core
  refine K.aload_n (q := 1) dJ5_init_d00df_0 rfl rfl ?_
  refine K.objInit (q := 4) mw_J5_3 (Nat.le_of_ble_eq_true rfl) (Nat.le_of_ble_eq_true rfl) dJ5_init_d00df_1 rfl ?_
  refine G.gets (q := 7) (v := .int 1) hZ (fun _ => rfl) fw_J5_18 dJ5_init_d00df_4 rfl ?_
  refine K.if_eq (q := 10) (tgt := 25) dJ5_init_d00df_7 rfl (by decide) (fun h => absurd h (by decide)) (fun _ => ?_)
  refine K.aload_n (q := 11) dJ5_init_d00df_10 rfl rfl ?_
  refine K.iload_n (q := 12) dJ5_init_d00df_11 rfl rfl ?_
  refine K.newa (atype := .byte) (t := 2) (N := 16) (x0 := (16, .inl (fun _ => 0))) (q := 14) cw_byte ⟨rfl, by decide⟩ (fun _ => rfl) (fun _ => rfl) (by decide) (by decide) (by decide) rfl (Nat.le_of_ble_eq_true rfl) (Nat.le_of_ble_eq_true rfl) (Nat.le_of_ble_eq_true rfl) dJ5_init_d00df_12 rfl ?_
  rw [hp_push]
  refine K.putf (fs := [.null, .int 0, .int 0, .int 0]) (q := 17) fb_J5_15 rfl (Nat.le_of_ble_eq_true rfl) (Nat.le_of_ble_eq_true rfl) (fun _ => rfl) (fun _ => rfl) (hps (ds := [sbN, arB 16 (fun _ => 0)]) (ds' := [sbO 1 0, arB 16 (fun _ => 0)]) (Nat.le_of_ble_eq_true rfl) rfl) dJ5_init_d00df_14 rfl ?_
  refine K.aload_n (q := 18) dJ5_init_d00df_17 rfl rfl ?_
  refine K.iconst (q := 19) (v := 0) dJ5_init_d00df_18 rfl (by decide) ?_
  refine K.putf (fs := [.ref 1, .int 0, .int 0, .int 0]) (q := 22) fb_J5_22 rfl (Nat.le_of_ble_eq_true rfl) (Nat.le_of_ble_eq_true rfl) (fun _ => rfl) (fun _ => rfl) (hps (ds := [sbO 1 0, arB 16 (fun _ => 0)]) (ds' := [sbO 1 0, arB 16 (fun _ => 0)]) (Nat.le_of_ble_eq_true rfl) rfl) dJ5_init_d00df_19 rfl ?_
  refine K.goto (tgt := 38) dJ5_init_d00df_22 (by decide) ?_
  refine C.vret rfl rfl ?_ (Nat.le_of_ble_eq_true rfl) (Nat.le_of_ble_eq_true rfl) dJ5_init_d00df_38
  have e : ft [] = (fun _ => 0) := by funext j; unfold ft; simp
  unfold bt; rw [e]; rfl
theorem b4_ini (hok : prOk Pr) (hZ : ∀ g s, Pr g s → va_Z "java/lang/String" "COMPACT_STRINGS" "Z" (.int 1) (aD g) s s.heap) : CtG Pr 2 1 16 yJ4_init_da8c8 (.code yJ4_init_da8c8 cJ4_init_da8c8 1 none) [.ref 0] (hp [sbN]) (.inl none) (bt [] 16 []) := by
  refine CtG.ofI (LL := [some (.ref 0)]) mkJ4_init_da8c8.1 owJ4_init_da8c8 rfl (Nat.le_of_ble_eq_true rfl) rfl (fun Wk G C => ?_)
  have K := G.core
  refine K.aload_n (q := 1) dJ4_init_da8c8_0 rfl rfl ?_
  refine K.bipush (q := 3) (v := nI 16) dJ4_init_da8c8_1 rfl (by decide) ?_
  refine G.callIv (av := [.int (nI 16)]) (S := []) (q := 6) hok mkJ5_init_d00df mw_J4_1 (b5_ini hZ) rfl (by decide) rfl (Nat.le_of_ble_eq_true rfl) (Nat.le_of_ble_eq_true rfl) (Nat.le_of_ble_eq_true rfl) dJ4_init_da8c8_3 rfl ?_
  exact C.vret rfl rfl rfl (Nat.le_of_ble_eq_true rfl) (Nat.le_of_ble_eq_true rfl) dJ4_init_da8c8_6
theorem b7_chk {x y : Nat} (h : x ≤ y) (hy : y < 2147483648) : CtG Pr 1 0 0 yJ7_checkLength_df160 (.code yJ7_checkLength_df160 cJ7_checkLength_df160 2 none) [.int (nI x), .int (nI y)] H (.inl none) H := by
  refine CtG.ofI (LL := [some (.int (nI x)), some (.int (nI y))]) mkJ7_checkLength_df160.1 owJ7_checkLength_df160 rfl (Nat.le_of_ble_eq_true rfl) rfl (fun Wk G C => ?_)
  have K := G.core
  refine K.iload_n (q := 1) dJ7_checkLength_df160_0 rfl rfl ?_
  refine K.iload_n (q := 2) dJ7_checkLength_df160_1 rfl rfl ?_
  refine K.icmp_ge (q := 5) (tgt := 37) dJ7_checkLength_df160_2 rfl (by decide) (fun _ => ?_) (fun hh => absurd (nI_le h (by omega)) hh)
  exact C.vret rfl rfl rfl (Nat.le_of_ble_eq_true rfl) (Nat.le_of_ble_eq_true rfl) dJ7_checkLength_df160_37
theorem b7_rby {ds : List mC} (hok : prOk Pr) (hi : (hp ds).2.2 i = arB m (ft t)) (li : i < ds.length) (hl : ds.length < 131) (ht : t.length ≤ m) (hm : m < 10000) (hb : okT t) : CtG Pr 2 1 t.length yJ7_copyOfRangeByte_39247 (.code yJ7_copyOfRangeByte_39247 cJ7_copyOfRangeByte_39247 5 (some (.array .byte))) [.ref i, .int (nI 0), .int (nI t.length)] (hp ds) (.inl (some (.ref ds.length))) (hp (ds ++ [arB t.length (ft t)])) := by
  refine CtG.ofI (LL := [some (.ref i), some (.int (nI 0)), some (.int (nI t.length)), none, none]) mkJ7_copyOfRangeByte_39247.1 owJ7_copyOfRangeByte_39247 rfl (Nat.le_of_ble_eq_true rfl) rfl (fun Wk G C => ?_)
  have K := G.core
  have c2 : (nI t.length).toNatClampNeg = t.length := nI_clamp (by omega)
  refine K.iload_n (q := 1) dJ7_copyOfRangeByte_39247_0 rfl rfl ?_
  refine K.iload_n (q := 2) dJ7_copyOfRangeByte_39247_1 rfl rfl ?_
  refine G.callSv (av := [.int (nI 0), .int (nI t.length)]) (S := []) (q := 5) hok mkJ7_checkLength_df160 mw_J7_343 (b7_chk (Nat.zero_le _) (by omega)) rfl (by decide) rfl (Nat.le_of_ble_eq_true rfl) (Nat.zero_le _) (Nat.zero_le _) dJ7_copyOfRangeByte_39247_2 rfl ?_
  refine K.iload_n (q := 6) dJ7_copyOfRangeByte_39247_5 rfl rfl ?_
  refine K.iload_n (q := 7) dJ7_copyOfRangeByte_39247_6 rfl rfl ?_
  refine K.isub (q := 8) dJ7_copyOfRangeByte_39247_7 rfl ?_
  rw [show nI t.length - nI 0 = nI t.length from pk_sub (Nat.zero_le _)]
  refine K.istore_n (i := 3) (q := 9) dJ7_copyOfRangeByte_39247_8 rfl rfl (by decide) rfl ?_
  refine K.iload_n (q := 10) dJ7_copyOfRangeByte_39247_9 rfl rfl ?_
  refine K.newa (atype := .byte) (t := 2) (N := t.length) (x0 := (t.length, .inl (fun _ => 0))) (q := 12) cw_byte ⟨rfl, by decide⟩ (fun _ => rfl) (fun _ => rfl) (nI_pos (by omega)) c2 (by omega) rfl hl (Nat.le_of_ble_eq_true rfl) (by omega) dJ7_copyOfRangeByte_39247_10 rfl ?_
  rw [hp_push]
  refine K.astore (i := 4) (q := 14) dJ7_copyOfRangeByte_39247_12 rfl (by decide) rfl ?_
  have e0 : (hp (ds ++ [arB t.length (fun _ => 0)])).2.2 i = arB m (ft t) := by
    have h : (ds ++ [arB t.length (fun _ => 0)])[i]? = ds[i]? := List.getElem?_append_left li
    show ((ds ++ [arB t.length (fun _ => 0)])[i]?).getD dfl = _
    rw [h]; exact hi
  have l0 : i < (hp (ds ++ [arB t.length (fun _ => 0)])).2.1 := by show i < (ds ++ [_]).length; simp; omega
  have e1 : (hp (ds ++ [arB t.length (fun _ => 0)])).2.2 ds.length = arB t.length (fun _ => 0) := by simp [hp]
  have l1 : ds.length < (hp (ds ++ [arB t.length (fun _ => 0)])).2.1 := by show _ < (ds ++ [_]).length; simp
  refine K.aload_n (q := 15) dJ7_copyOfRangeByte_39247_14 rfl rfl ?_
  refine K.iload_n (q := 16) dJ7_copyOfRangeByte_39247_15 rfl rfl ?_
  refine K.aload (q := 18) dJ7_copyOfRangeByte_39247_16 rfl rfl ?_
  refine K.iconst (q := 19) (v := 0) dJ7_copyOfRangeByte_39247_18 rfl (by decide) ?_
  refine K.aload_n (q := 20) dJ7_copyOfRangeByte_39247_19 rfl rfl ?_
  refine K.alen (len := 0) (q := 21) (t := 2) (v := nI m) e0 l0 (by decide) rfl dJ7_copyOfRangeByte_39247_20 rfl ?_
  refine K.iload_n (q := 22) dJ7_copyOfRangeByte_39247_21 rfl rfl ?_
  refine K.isub (q := 23) dJ7_copyOfRangeByte_39247_22 rfl ?_
  rw [show nI m - nI 0 = nI m from pk_sub (Nat.zero_le _)]
  refine K.iload_n (q := 24) dJ7_copyOfRangeByte_39247_23 rfl rfl ?_
  refine K.mmin (q := 27) mw_J7_304 (Nat.le_of_ble_eq_true rfl) (Nat.le_of_ble_eq_true rfl) dJ7_copyOfRangeByte_39247_24 rfl (by omega) (by omega) ?_
  rw [show (if nI t.length < nI m then nI t.length else nI m) = nI t.length by
    by_cases h : t.length < m
    · rw [if_pos (nI_lt h (by omega))]
    · rw [if_neg (nI_nlt (by omega) (by omega)), show t.length = m by omega]]
  refine K.cpb (q := 30) (S := []) (H' := hp (ds ++ [arB t.length (ft t)])) mw_J7_150 l0 l1 e0 e1 (by decide) (by decide) (nI_pos (by omega)) (by rw [c2]; exact Nat.le_trans (Nat.le_of_eq (Nat.zero_add _)) ht) (by rw [c2]; exact Nat.le_of_eq (Nat.zero_add _)) (fun j _ => ft_fit hb _) (Nat.le_of_ble_eq_true rfl) (Nat.le_of_ble_eq_true rfl) ?_ dJ7_copyOfRangeByte_39247_27 rfl ?_
  · rw [show (0 : Int32).toNatClampNeg = 0 from rfl, show (nI 0).toNatClampNeg = 0 from rfl, c2, ft_cpy (Nat.le_refl _)]
    exact hps (ds := ds ++ [arB t.length (fun _ => 0)]) (q := ds.length) (by simp) (by simp)
  refine K.aload (q := 32) dJ7_copyOfRangeByte_39247_30 rfl rfl ?_
  exact C.areta rfl rfl rfl (Nat.le_of_ble_eq_true rfl) (by omega) dJ7_copyOfRangeByte_39247_32
theorem b7_rng {ds : List mC} (hok : prOk Pr) (hi : (hp ds).2.2 i = arB m (ft t)) (li : i < ds.length) (hl : ds.length < 131) (ht : t.length < m) (hm : m < 10000) (hb : okT t) : CtG Pr 3 1 t.length yJ7_copyOfRange_39247 (.code yJ7_copyOfRange_39247 cJ7_copyOfRange_39247 3 (some (.array .byte))) [.ref i, .int (nI 0), .int (nI t.length)] (hp ds) (.inl (some (.ref ds.length))) (hp (ds ++ [arB t.length (ft t)])) := by
  refine CtG.ofI (LL := [some (.ref i), some (.int (nI 0)), some (.int (nI t.length))]) mkJ7_copyOfRange_39247.1 owJ7_copyOfRange_39247 rfl (Nat.le_of_ble_eq_true rfl) rfl (fun Wk G C => ?_)
  have K := G.core
  refine K.iload_n (q := 1) dJ7_copyOfRange_39247_0 rfl rfl ?_
  refine K.if_ne (q := 4) (tgt := 10) dJ7_copyOfRange_39247_1 rfl (by decide) (fun h => absurd rfl h) (fun _ => ?_)
  refine K.iload_n (q := 5) dJ7_copyOfRange_39247_4 rfl rfl ?_
  refine K.aload_n (q := 6) dJ7_copyOfRange_39247_5 rfl rfl ?_
  refine K.alen (len := 0) (q := 7) (t := 2) (v := nI m) hi li (by decide) rfl dJ7_copyOfRange_39247_6 rfl ?_
  refine K.icmp_eq (q := 10) (tgt := 17) dJ7_copyOfRange_39247_7 rfl (by decide) (fun h => absurd ((nI_eq (by omega) (by omega)).mp h) (by omega)) (fun _ => ?_)
  refine K.aload_n (q := 11) dJ7_copyOfRange_39247_10 rfl rfl ?_
  refine K.iload_n (q := 12) dJ7_copyOfRange_39247_11 rfl rfl ?_
  refine K.iload_n (q := 13) dJ7_copyOfRange_39247_12 rfl rfl ?_
  refine G.callS (av := [.ref i, .int (nI 0), .int (nI t.length)]) (S := []) (q := 16) hok mkJ7_copyOfRangeByte_39247 mw_J7_339 (b7_rby hok hi li hl (by omega) hm hb) rfl (by decide) rfl (Nat.le_of_ble_eq_true rfl) (by omega) (by omega) dJ7_copyOfRange_39247_13 rfl ?_
  exact C.areta rfl rfl rfl (by omega) (by omega) dJ7_copyOfRange_39247_16
/-- the cells of a text that has been told -/
def bs (pre : List mC) (m : Nat) (t : List Int32) : List mC := sbO (pre.length + 1) t.length :: (pre ++ [arB m (ft t)])
abbrev stN : mC := .inr (0, [.null, .int 0, .int 0, .int 0])
abbrev stO (i : Nat) : mC := .inr (0, [.ref i, .int 0, .int 0, .int 0])
theorem bs_len : (bs pre m t).length = pre.length + 2 := by simp [bs]
theorem b0_ias (hok : prOk Pr) (hZ : ∀ g s, Pr g s → va_Z "java/lang/String" "COMPACT_STRINGS" "Z" (.int 1) (aD g) s s.heap) (hl : pre.length + 4 ≤ 131) (ht : t.length < m) (hm : m < 10000) (hb : okT t) :
    CtG Pr 4 1 t.length yJ0_init_db425 (.code yJ0_init_db425 cJ0_init_db425 5 none) [.ref (pre.length + 2), .ref 0, .null] (hp (bs pre m t ++ [stN])) (.inl none) (hp (bs pre m t ++ [stO (pre.length + 3), arB t.length (ft t)])) := by
  refine CtG.ofI (LL := [some (.ref (pre.length + 2)), some (.ref 0), some .null, none, none]) mkJ0_init_db425.1 owJ0_init_db425 rfl (Nat.le_of_ble_eq_true rfl) rfl (fun Wk G C => ?_)
  rw [show (yJ0_init_db425.name == "<init>") = true by decide] at C
  have K := G.core
  have h0 : (hp (bs pre m t ++ [stN])).2.2 0 = sbO (pre.length + 1) t.length := rfl
  have l0 : 0 < (hp (bs pre m t ++ [stN])).2.1 := Nat.succ_pos _
  have ls : pre.length + 2 < (hp (bs pre m t ++ [stN])).2.1 := by show _ < (bs pre m t ++ [stN]).length; rw [List.length_append, bs_len]; exact Nat.lt_succ_self _
  have hs : (hp (bs pre m t ++ [stN])).2.2 (pre.length + 2) = stN := by
    show ((bs pre m t ++ [stN])[pre.length + 2]?).getD dfl = _
    rw [List.getElem?_append_right (by rw [bs_len]; exact Nat.le_refl _), bs_len, Nat.sub_self]; rfl
  have hi : (hp (bs pre m t ++ [stN])).2.2 (pre.length + 1) = arB m (ft t) := by simp [hp, bs]
  refine K.aload_n (q := 1) dJ0_init_db425_0 rfl rfl ?_
  refine K.objInit (q := 4) mw_J0_1 (Nat.le_of_ble_eq_true rfl) (Nat.le_of_ble_eq_true rfl) dJ0_init_db425_1 rfl ?_
  refine K.aload_n (q := 5) dJ0_init_db425_4 rfl rfl ?_
  refine G.callU (av := []) (S := []) (q := 8) hok umJ5_getValue_6d5f1 mw_J0_552 (b5_val h0 l0) l0 h0 rfl (by decide) rfl (Nat.le_of_ble_eq_true rfl) (Nat.zero_le _) (Nat.zero_le _) dJ0_init_db425_5 rfl ?_
  refine K.astore_n (i := 3) (q := 9) dJ0_init_db425_8 rfl rfl (by decide) rfl ?_
  refine K.aload_n (q := 10) dJ0_init_db425_9 rfl rfl ?_
  refine G.callU (av := []) (S := []) (q := 13) hok umJ5_length_8abf5 mw_J0_549 (b4_len hok h0 l0) l0 h0 rfl (by decide) rfl (Nat.le_of_ble_eq_true rfl) (Nat.zero_le _) (Nat.zero_le _) dJ0_init_db425_10 rfl ?_
  refine K.istore (i := 4) (q := 15) dJ0_init_db425_13 rfl (by decide) rfl ?_
  refine K.aload_n (q := 16) dJ0_init_db425_15 rfl rfl ?_
  refine G.callU (av := []) (S := []) (q := 19) hok umJ5_isLatin1_aae02 mw_J0_1047 (b5_lat hZ h0 l0) l0 h0 rfl (by decide) rfl (Nat.le_of_ble_eq_true rfl) (Nat.zero_le _) (Nat.zero_le _) dJ0_init_db425_16 rfl ?_
  refine K.if_eq (q := 22) (tgt := 41) dJ0_init_db425_19 rfl (by decide) (fun h => absurd h (by decide)) (fun _ => ?_)
  refine K.aload_n (q := 23) dJ0_init_db425_22 rfl rfl ?_
  refine K.iconst (q := 24) (v := 0) dJ0_init_db425_23 rfl (by decide) ?_
  refine C.putF (fs := [.null, .int 0, .int 0, .int 0]) (H' := hp (bs pre m t ++ [stN])) (q := 27) fb_J0_15 hs ls (Nat.le_of_ble_eq_true rfl) (fun _ => rfl) (fun _ => rfl) (hps (q := pre.length + 2) ls (by rw [List.set_append_right _ _ (by rw [bs_len]; exact Nat.le_refl _), bs_len, Nat.sub_self]; rfl)) dJ0_init_db425_24 rfl ?_
  refine K.aload_n (q := 28) dJ0_init_db425_27 rfl rfl ?_
  refine K.aload_n (q := 29) dJ0_init_db425_28 rfl rfl ?_
  refine K.iconst (q := 30) (v := nI 0) dJ0_init_db425_29 rfl (by decide) ?_
  refine K.iload (q := 32) dJ0_init_db425_30 rfl rfl ?_
  have hc := b7_rng (Pr := Pr) (ds := bs pre m t ++ [stN]) hok hi (by show pre.length + 1 < (bs pre m t ++ [stN]).length; rw [List.length_append, bs_len]; show _ < pre.length + 2 + 1; omega) (by rw [List.length_append, bs_len]; show pre.length + 2 + 1 < 131; omega) ht hm hb
  rw [List.append_assoc, List.length_append, bs_len] at hc
  refine G.callS (av := [.ref (pre.length + 1), .int (nI 0), .int (nI t.length)]) (S := [.ref (pre.length + 2)]) (q := 35) hok mkJ7_copyOfRange_39247 mw_J0_54 hc rfl (by decide) rfl (Nat.le_of_ble_eq_true rfl) (by omega) (by omega) dJ0_init_db425_32 rfl ?_
  have ls2 : pre.length + 2 < (hp (bs pre m t ++ [stN, arB t.length (ft t)])).2.1 := by show _ < (bs pre m t ++ [stN, arB t.length (ft t)]).length; rw [List.length_append, bs_len]; show _ < pre.length + 2 + 2; omega
  have hs2 : (hp (bs pre m t ++ [stN, arB t.length (ft t)])).2.2 (pre.length + 2) = stN := by
    show ((bs pre m t ++ [stN, arB t.length (ft t)])[pre.length + 2]?).getD dfl = _
    rw [List.getElem?_append_right (by rw [bs_len]; exact Nat.le_refl _), bs_len, Nat.sub_self]; rfl
  refine C.putF (fs := [.null, .int 0, .int 0, .int 0]) (H' := hp (bs pre m t ++ [stO (pre.length + 3), arB t.length (ft t)])) (q := 38) fb_J0_9 hs2 ls2 (Nat.le_of_ble_eq_true rfl) (fun _ => rfl) (fun _ => rfl) (hps (q := pre.length + 2) ls2 (by rw [List.set_append_right _ _ (by rw [bs_len]; exact Nat.le_refl _), bs_len, Nat.sub_self]; rfl)) dJ0_init_db425_35 rfl ?_
  refine K.goto (tgt := 97) dJ0_init_db425_38 (by decide) ?_
  exact C.vret rfl rfl rfl (by omega) (by omega) dJ0_init_db425_97
theorem b0_isb (hok : prOk Pr) (hZ : ∀ g s, Pr g s → va_Z "java/lang/String" "COMPACT_STRINGS" "Z" (.int 1) (aD g) s s.heap) (hl : pre.length + 4 ≤ 131) (ht : t.length < m) (hm : m < 10000) (hb : okT t) :
    CtG Pr 5 1 t.length yJ0_init_81219 (.code yJ0_init_81219 cJ0_init_81219 2 none) [.ref (pre.length + 2), .ref 0] (hp (bs pre m t ++ [stN])) (.inl none) (hp (bs pre m t ++ [stO (pre.length + 3), arB t.length (ft t)])) := by
  refine CtG.ofI (LL := [some (.ref (pre.length + 2)), some (.ref 0)]) mkJ0_init_81219.1 owJ0_init_81219 rfl (Nat.le_of_ble_eq_true rfl) rfl (fun Wk G C => ?_)
  have K := G.core
  refine K.aload_n (q := 1) dJ0_init_81219_0 rfl rfl ?_
  refine K.aload_n (q := 2) dJ0_init_81219_1 rfl rfl ?_
  refine K.null (q := 3) dJ0_init_81219_2 rfl ?_
  refine G.callIv (av := [.ref 0, .null]) (S := []) (q := 6) hok mkJ0_init_db425 mw_J0_489 (b0_ias hok hZ hl ht hm hb) rfl (by decide) rfl (Nat.le_of_ble_eq_true rfl) (by omega) (by omega) dJ0_init_81219_3 rfl ?_
  exact C.vret rfl rfl rfl (by omega) (by omega) dJ0_init_81219_6
theorem b4_str (hok : prOk Pr) (hZ : ∀ g s, Pr g s → va_Z "java/lang/String" "COMPACT_STRINGS" "Z" (.int 1) (aD g) s s.heap) (hl : pre.length + 4 ≤ 131) (ht : t.length < m) (hm : m < 10000) (hb : okT t) :
    CtG Pr 6 2 (t.length + 4) yJ4_toString_0e30d (.code yJ4_toString_0e30d cJ4_toString_0e30d 1 (some (.object "java/lang/String"))) [.ref 0] (bt pre m t) (.inl (some (.ref (pre.length + 2)))) (hp (bs pre m t ++ [stO (pre.length + 3), arB t.length (ft t)])) := by
  refine CtG.ofI (LL := [some (.ref 0)]) mkJ4_toString_0e30d.1 owJ4_toString_0e30d rfl (Nat.le_of_ble_eq_true rfl) rfl (fun Wk G C => ?_)
  have K := G.core
  refine K.new (q := 3) (C0 := RJ0) (N := 4) co_J0 kw_J4_18 aw_J0 iw_J0 rfl (by show (bs pre m t).length < 131; rw [bs_len]; omega) (Nat.le_of_ble_eq_true rfl) (by omega) dJ4_toString_0e30d_0 rfl ?_
  rw [show (bt pre m t).2.1 = pre.length + 2 from bt_top, show pH (bt pre m t) stN = hp (bs pre m t ++ [stN]) from hp_push _ _]
  refine K.dup (q := 4) dJ4_toString_0e30d_3 rfl rfl ?_
  refine K.aload_n (q := 5) dJ4_toString_0e30d_4 rfl rfl ?_
  refine G.callIv (av := [.ref 0]) (S := [.ref (pre.length + 2)]) (q := 8) hok mkJ0_init_81219 mw_J4_137 (b0_isb hok hZ hl ht hm hb) rfl (by decide) rfl (Nat.le_of_ble_eq_true rfl) (by omega) (by omega) dJ4_toString_0e30d_5 rfl ?_
  exact C.aret rfl (Or.inr ⟨_, rfl⟩) rfl rfl (by omega) (by omega) dJ4_toString_0e30d_8
end
