/-! ===== p36: act and runs ===== -/
theorem cst_IAE : Cond.castable "java/lang/IllegalArgumentException" "java/lang/IllegalArgumentException" ∈ lw_tbl := by decide +kernel
theorem cst_UOE : Cond.castable "java/lang/UnsupportedOperationException" "java/lang/UnsupportedOperationException" ∈ lw_tbl := by decide +kernel
theorem cst_IOOBE : Cond.castable "java/lang/IndexOutOfBoundsException" "java/lang/IndexOutOfBoundsException" ∈ lw_tbl := by decide +kernel
theorem ncs36 : ("java/lang/UnsupportedOperationException", "java/lang/IllegalArgumentException") ∈ ncs ∧ ("java/lang/IllegalArgumentException", "java/lang/UnsupportedOperationException") ∈ ncs ∧ ("java/lang/IndexOutOfBoundsException", "java/lang/UnsupportedOperationException") ∈ ncs ∧ ("java/lang/IndexOutOfBoundsException", "java/lang/IllegalArgumentException") ∈ ncs := by decide +kernel
section
variable {own : String} {cc : ByteArray} {nL d kc ks : Nat} {Wk : tW} {k n pc q : Nat} {L : List (Option Value)} {S St : List Value} {H H' H2 : aH} {ret : Option FieldType} {tab : List (Nat × Nat × Nat × Nat)} {ini : Bool} {r : rR}
variable {y : MethodName} {cb : ByteArray} {mL na idx d' mc ms i ci : Nat} {rt : Option FieldType} {av : List Value} {fs : List Value}
/-- a virtual call throws E, the row x of the table takes it, and it is stored at j -/
theorem OkM.catchW {E name : String} {j hp ln : Nat} (C : OkM own cc nL d kc ks ret tab ini r H2 Wk) (hm : VM y cb mL rt na ci) (hw : wok (.methodLink own idx y)) (hc : Ct d' mc ms y (.code y cb mL rt) (.ref i :: av) H (.inr E) H') (hst : St = av.reverse ++ .ref i :: S) (hd : d' + 1 ≤ d) (hna : av.length = na) (hi : i < H.2.1) (hH : H.2.2 i = .inr (ci, fs)) (hsum : (S.map fun v => v.category).sum ≤ 8) (hk : k + mc ≤ kc) (hn : n + ms ≤ ks) (dg : decode cc pc = .ok (.invokevirtual idx, 3))
    (pre : List ExceptionTableEntry) (x : ExceptionTableEntry) (suf : List ExceptionTableEntry) (hsplit : tableOf tab = pre ++ x :: suf) (hpass : ∀ z ∈ pre, covers z pc = false ∨ (z.catchType ≠ 0 ∧ ∃ nm : String, wok (.classLink own z.catchType nm) ∧ (E, nm) ∈ ncs)) (hx : covers x pc = true) (h0 : x.catchType ≠ 0) (hl1 : wok (.classLink own x.catchType name)) (hcast : (Cond.castable E name) ∈ lw_tbl)
    (hj : j < nL) (hj1 : oneL L j = true) (dh : (∃ z : Fin 4, (z : Nat) = j ∧ ln = 1 ∧ decode cc x.handlerPc = .ok (.astore_n z, 1)) ∨ (ln = 2 ∧ decode cc x.handlerPc = .ok (.astore j, 2))) (hq : x.handlerPc + ln = q)
    (kk : Wk (k + mc) (n + ms) q (L.set j none) [] H') : Wk k n pc L St H := by
  obtain ⟨p, l, e, R, s, m, args, below, meth, c, g, ca, D, sL, X, ht, -, -, rfl⟩ := C
  subst hst; subst hq
  intro Hr locs ls hN hS hl
  obtain ⟨h1, h2, h3, h4, h5, T, N, h6⟩ := hm
  refine run_threw (X.runV h1 h2 h3 h4 hw hc hd h5 hna hi hH h6 hsum hk hn dg hN hS hl) hS (fun H1 locs1 q1 ce hw1 hS1 hce hcv hcl => ?_)
  have hcast' : (Cond.castable E name).before args s = true := by
    obtain ⟨-, ⟨a0, h9⟩, -⟩ := X.1
    exact va_Nw.use rfl (va_Nw.warmC X.2.1 (va_Nw.of rfl (h9 _ hcast)))
  refine vx_catch X.ow pre x suf (ht.trans hsplit) (fun z hz => ?_) hx h0 (X.word hl1 args) hcast' hce hcv hcl ?_
  · rcases hpass z hz with a0 | ⟨a1, nm, a2, a3⟩
    · exact Or.inl a0
    · exact Or.inr ⟨a1, nm, X.word a2 args, X.nc a3⟩
  · have key : ∀ ls2 : Array Slot, lv_has ls2 nL ((j, Value.ref q1) :: (lP g 0 L).filter (fun q => !(q.1 == j) && !(q.1 + 1 == j && q.2.category == 2))) → lH g ls2 nL (L.set j none) := by
      intro ls2 h
      refine ⟨h.1, h.2.1, fun k9 w hk9 => ?_⟩
      have e9 : ¬ k9 = j := by
        intro e8
        subst e8
        have hl9 : k9 < (L.set k9 none).length := (List.getElem?_eq_some_iff.mp hk9).1
        rw [List.length_set] at hl9
        rw [List.getElem?_set_self hl9] at hk9
        simp at hk9
      rw [List.getElem?_set_ne (Ne.symm e9)] at hk9
      refine h.2.2 (k9, rv g w) (List.mem_cons_of_mem _ (List.mem_filter.mpr ⟨(lP_mem g L 0 _).mpr ⟨k9, w, hk9, by rw [Nat.zero_add]⟩, ?_⟩))
      simp only [Bool.and_eq_true, Bool.not_eq_true', beq_eq_false_iff_ne, ne_eq, Bool.and_eq_false_iff]
      refine ⟨e9, ?_⟩
      by_cases e2 : k9 + 1 = j
      · exact Or.inr (by rw [rv_cat]; exact oneL_spec hj1 e2 hk9)
      · exact Or.inl e2
    rcases dh with ⟨z, hz, rfl, dh⟩ | ⟨rfl, dh⟩
    · exact lv_astore_n X.exec X.code dh hz (lH_has hl) hj rfl (fun ls2 hl2 => kk H1 locs1 ls2 hw1 hS1 (key ls2 hl2))
    · exact lv_astore X.exec X.code dh (lH_has hl) hj rfl (fun ls2 hl2 => kk H1 locs1 ls2 hw1 hS1 (key ls2 hl2))
end
theorem e_ins (v : Int32) : e_X7_insist v = "" ∨ e_X7_insist v = "java/lang/UnsupportedOperationException" ∨ e_X7_insist v = "java/lang/IllegalArgumentException" ∨ e_X7_insist v = "java/lang/IndexOutOfBoundsException" := by
  unfold e_X7_insist
  split
  · exact Or.inr (Or.inr (Or.inr rfl))
  · split
    · exact Or.inr (Or.inr (Or.inl rfl))
    · split
      · exact Or.inr (Or.inl rfl)
      · exact Or.inl rfl
theorem ins_e (v : Int32) : (if e_X7_insist v = "" then "" else e_X7_insist v) = e_X7_insist v := by
  split
  · rename_i h; exact h.symm
  · rfl
theorem aR_0 (r : Int32) : aR "" r = r := if_pos rfl
theorem aR_u (r : Int32) : aR "java/lang/UnsupportedOperationException" r = -2 := by unfold aR; rw [if_neg (by decide), if_pos rfl]
theorem aR_a (r : Int32) : aR "java/lang/IllegalArgumentException" r = -3 := by unfold aR; rw [if_neg (by decide), if_neg (by decide)]
theorem aR_i (r : Int32) : aR "java/lang/IndexOutOfBoundsException" r = -3 := by unfold aR; rw [if_neg (by decide), if_neg (by decide)]
theorem c7_lend {X : GS} (hN : okI (X.2.1 0)) (a b : Int32) : Ct 7 1 6 yX7_lend (.code yX7_lend cX7_lend 3 (some (.int))) [.ref 0, .int a, .int b] (mkH X) (rT (e_X7_lend (X.1 0) a b) (some (.int (r_X7_lend (X.1 0) a b)))) (mkH (sLend X a b)) := by
  have h := s_X7_lend X (X.1 0) a b hN
  rw [uB_eta] at h
  exact h
theorem L_act0 {X : GS} (hN : okI (X.2.1 0)) (a b : Int32) : Ct 8 1 6 yL_act (.codeWith yL_act cL_act 5 (some (.int)) [(0, 46, 85, 57), (47, 53, 85, 57), (54, 59, 85, 57), (60, 65, 85, 57), (66, 72, 85, 57), (73, 78, 85, 57), (79, 84, 85, 57), (0, 46, 90, 59), (47, 53, 90, 59), (54, 59, 90, 59), (60, 65, 90, 59), (66, 72, 90, 59), (73, 78, 90, 59), (79, 84, 90, 59), (0, 46, 95, 61), (47, 53, 95, 61), (54, 59, 95, 61), (60, 65, 95, 61), (66, 72, 95, 61), (73, 78, 95, 61), (79, 84, 95, 61)]) [.ref 0, .int 0, .int a, .int b] (mkH X) (.inl (some (.int (aR (e_X7_lend (X.1 0) a b) (r_X7_lend (X.1 0) a b))))) (mkH (sLend X a b)) := by
  refine Ct.ofH (LL := [some (.ref 0), some (.int 0), some (.int a), some (.int b), none]) mkL_act owL_act rfl (Nat.le_of_ble_eq_true rfl) rfl (fun Wk C => ?_)
  have K := C.core
  have hc := c7_lend hN a b
  have he : e_X7_lend (X.1 0) a b = "" ∨ e_X7_lend (X.1 0) a b = "java/lang/UnsupportedOperationException" ∨ e_X7_lend (X.1 0) a b = "java/lang/IllegalArgumentException" ∨ e_X7_lend (X.1 0) a b = "java/lang/IndexOutOfBoundsException" := by
    rw [show e_X7_lend (X.1 0) a b = e_X7_insist (r_X7_judgeLend (X.1 0) a b) from ins_e _]
    exact e_ins _
  refine K.iload_n (q := 1) dL_act_0 rfl rfl ?_
  refine K.tableIn (off := 39) (tgt := 40) dL_act_1 (by decide) (by decide) (by decide) (by decide) ?_
  refine K.aload_n (q := 41) dL_act_40 rfl rfl ?_
  refine K.iload_n (q := 42) dL_act_41 rfl rfl ?_
  refine K.iload_n (q := 43) dL_act_42 rfl rfl ?_
  generalize e_X7_lend (X.1 0) a b = ee at hc he C
  rcases he with rfl | rfl | rfl | rfl
  · rw [aR_0] at C
    refine K.callV (q := 46) mkX7_lend mw_L_34 (ct_ok hc rfl) rfl (by decide) rfl (lt141 (by decide)) rx0 (Nat.le_of_ble_eq_true rfl) (Nat.le_of_ble_eq_true rfl) (Nat.le_of_ble_eq_true rfl) dL_act_43 rfl ?_
    exact C.iret rfl rfl rfl rfl (Nat.le_of_ble_eq_true rfl) (Nat.le_of_ble_eq_true rfl) dL_act_46
  · rw [aR_u] at C
    refine C.catchW (name := "java/lang/UnsupportedOperationException") (j := 4) (hp := 0) (ln := 2) (q := 87) mkX7_lend mw_L_34 (ct_ex hc (by decide)) rfl (by decide) rfl (lt141 (by decide)) rx0 (Nat.le_of_ble_eq_true rfl) (Nat.le_of_ble_eq_true rfl) (Nat.le_of_ble_eq_true rfl) dL_act_43 [] ⟨0, 46, 85, 57⟩ [⟨47, 53, 85, 57⟩, ⟨54, 59, 85, 57⟩, ⟨60, 65, 85, 57⟩, ⟨66, 72, 85, 57⟩, ⟨73, 78, 85, 57⟩, ⟨79, 84, 85, 57⟩, ⟨0, 46, 90, 59⟩, ⟨47, 53, 90, 59⟩, ⟨54, 59, 90, 59⟩, ⟨60, 65, 90, 59⟩, ⟨66, 72, 90, 59⟩, ⟨73, 78, 90, 59⟩, ⟨79, 84, 90, 59⟩, ⟨0, 46, 95, 61⟩, ⟨47, 53, 95, 61⟩, ⟨54, 59, 95, 61⟩, ⟨60, 65, 95, 61⟩, ⟨66, 72, 95, 61⟩, ⟨73, 78, 95, 61⟩, ⟨79, 84, 95, 61⟩] rfl (fun _ h => absurd h List.not_mem_nil) rfl (by decide) kw_L_57 cst_UOE (by decide) rfl (Or.inr ⟨rfl, dL_act_85⟩) rfl ?_
    refine K.bipush (q := 89) (v := (-2)) dL_act_87 rfl (by decide) ?_
    exact C.iret rfl rfl rfl rfl (Nat.le_of_ble_eq_true rfl) (Nat.le_of_ble_eq_true rfl) dL_act_89
  · rw [aR_a] at C
    refine C.catchW (name := "java/lang/IllegalArgumentException") (j := 4) (hp := 0) (ln := 2) (q := 92) mkX7_lend mw_L_34 (ct_ex hc (by decide)) rfl (by decide) rfl (lt141 (by decide)) rx0 (Nat.le_of_ble_eq_true rfl) (Nat.le_of_ble_eq_true rfl) (Nat.le_of_ble_eq_true rfl) dL_act_43 [⟨0, 46, 85, 57⟩, ⟨47, 53, 85, 57⟩, ⟨54, 59, 85, 57⟩, ⟨60, 65, 85, 57⟩, ⟨66, 72, 85, 57⟩, ⟨73, 78, 85, 57⟩, ⟨79, 84, 85, 57⟩] ⟨0, 46, 90, 59⟩ [⟨47, 53, 90, 59⟩, ⟨54, 59, 90, 59⟩, ⟨60, 65, 90, 59⟩, ⟨66, 72, 90, 59⟩, ⟨73, 78, 90, 59⟩, ⟨79, 84, 90, 59⟩, ⟨0, 46, 95, 61⟩, ⟨47, 53, 95, 61⟩, ⟨54, 59, 95, 61⟩, ⟨60, 65, 95, 61⟩, ⟨66, 72, 95, 61⟩, ⟨73, 78, 95, 61⟩, ⟨79, 84, 95, 61⟩] rfl (List.forall_mem_cons.mpr ⟨Or.inr ⟨by decide, _, kw_L_57, ncs36.2.1⟩, List.forall_mem_cons.mpr ⟨Or.inl rfl, List.forall_mem_cons.mpr ⟨Or.inl rfl, List.forall_mem_cons.mpr ⟨Or.inl rfl, List.forall_mem_cons.mpr ⟨Or.inl rfl, List.forall_mem_cons.mpr ⟨Or.inl rfl, List.forall_mem_cons.mpr ⟨Or.inl rfl, fun _ h => absurd h List.not_mem_nil⟩⟩⟩⟩⟩⟩⟩) rfl (by decide) kw_L_59 cst_IAE (by decide) rfl (Or.inr ⟨rfl, dL_act_90⟩) rfl ?_
    refine K.bipush (q := 94) (v := (-3)) dL_act_92 rfl (by decide) ?_
    exact C.iret rfl rfl rfl rfl (Nat.le_of_ble_eq_true rfl) (Nat.le_of_ble_eq_true rfl) dL_act_94
  · rw [aR_i] at C
    refine C.catchW (name := "java/lang/IndexOutOfBoundsException") (j := 4) (hp := 0) (ln := 2) (q := 97) mkX7_lend mw_L_34 (ct_ex hc (by decide)) rfl (by decide) rfl (lt141 (by decide)) rx0 (Nat.le_of_ble_eq_true rfl) (Nat.le_of_ble_eq_true rfl) (Nat.le_of_ble_eq_true rfl) dL_act_43 [⟨0, 46, 85, 57⟩, ⟨47, 53, 85, 57⟩, ⟨54, 59, 85, 57⟩, ⟨60, 65, 85, 57⟩, ⟨66, 72, 85, 57⟩, ⟨73, 78, 85, 57⟩, ⟨79, 84, 85, 57⟩, ⟨0, 46, 90, 59⟩, ⟨47, 53, 90, 59⟩, ⟨54, 59, 90, 59⟩, ⟨60, 65, 90, 59⟩, ⟨66, 72, 90, 59⟩, ⟨73, 78, 90, 59⟩, ⟨79, 84, 90, 59⟩] ⟨0, 46, 95, 61⟩ [⟨47, 53, 95, 61⟩, ⟨54, 59, 95, 61⟩, ⟨60, 65, 95, 61⟩, ⟨66, 72, 95, 61⟩, ⟨73, 78, 95, 61⟩, ⟨79, 84, 95, 61⟩] rfl (List.forall_mem_cons.mpr ⟨Or.inr ⟨by decide, _, kw_L_57, ncs36.2.2.1⟩, List.forall_mem_cons.mpr ⟨Or.inl rfl, List.forall_mem_cons.mpr ⟨Or.inl rfl, List.forall_mem_cons.mpr ⟨Or.inl rfl, List.forall_mem_cons.mpr ⟨Or.inl rfl, List.forall_mem_cons.mpr ⟨Or.inl rfl, List.forall_mem_cons.mpr ⟨Or.inl rfl, List.forall_mem_cons.mpr ⟨Or.inr ⟨by decide, _, kw_L_59, ncs36.2.2.2⟩, List.forall_mem_cons.mpr ⟨Or.inl rfl, List.forall_mem_cons.mpr ⟨Or.inl rfl, List.forall_mem_cons.mpr ⟨Or.inl rfl, List.forall_mem_cons.mpr ⟨Or.inl rfl, List.forall_mem_cons.mpr ⟨Or.inl rfl, List.forall_mem_cons.mpr ⟨Or.inl rfl, fun _ h => absurd h List.not_mem_nil⟩⟩⟩⟩⟩⟩⟩⟩⟩⟩⟩⟩⟩⟩) rfl (by decide) kw_L_61 cst_IOOBE (by decide) rfl (Or.inr ⟨rfl, dL_act_95⟩) rfl ?_
    refine K.bipush (q := 99) (v := (-3)) dL_act_97 rfl (by decide) ?_
    exact C.iret rfl rfl rfl rfl (Nat.le_of_ble_eq_true rfl) (Nat.le_of_ble_eq_true rfl) dL_act_99
theorem c7_ask {X : GS} (hN : okI (X.2.1 0)) (a b : Int32) : Ct 7 1 6 yX7_ask (.code yX7_ask cX7_ask 3 (some (.int))) [.ref 0, .int a, .int b] (mkH X) (rT (e_X7_ask (X.1 0) a b) (some (.int (r_X7_ask (X.1 0) a b)))) (mkH (sAsk X a b)) := by
  have h := s_X7_ask X (X.1 0) a b hN
  rw [uB_eta] at h
  exact h
theorem L_act1 {X : GS} (hN : okI (X.2.1 0)) (a b : Int32) : Ct 8 1 6 yL_act (.codeWith yL_act cL_act 5 (some (.int)) [(0, 46, 85, 57), (47, 53, 85, 57), (54, 59, 85, 57), (60, 65, 85, 57), (66, 72, 85, 57), (73, 78, 85, 57), (79, 84, 85, 57), (0, 46, 90, 59), (47, 53, 90, 59), (54, 59, 90, 59), (60, 65, 90, 59), (66, 72, 90, 59), (73, 78, 90, 59), (79, 84, 90, 59), (0, 46, 95, 61), (47, 53, 95, 61), (54, 59, 95, 61), (60, 65, 95, 61), (66, 72, 95, 61), (73, 78, 95, 61), (79, 84, 95, 61)]) [.ref 0, .int 1, .int a, .int b] (mkH X) (.inl (some (.int (aR (e_X7_ask (X.1 0) a b) (r_X7_ask (X.1 0) a b))))) (mkH (sAsk X a b)) := by
  refine Ct.ofH (LL := [some (.ref 0), some (.int 1), some (.int a), some (.int b), none]) mkL_act owL_act rfl (Nat.le_of_ble_eq_true rfl) rfl (fun Wk C => ?_)
  have K := C.core
  have hc := c7_ask hN a b
  have he : e_X7_ask (X.1 0) a b = "" ∨ e_X7_ask (X.1 0) a b = "java/lang/UnsupportedOperationException" ∨ e_X7_ask (X.1 0) a b = "java/lang/IllegalArgumentException" ∨ e_X7_ask (X.1 0) a b = "java/lang/IndexOutOfBoundsException" := by
    rw [show e_X7_ask (X.1 0) a b = e_X7_insist (r_X7_judgeAsk (X.1 0) a b) from ins_e _]
    exact e_ins _
  refine K.iload_n (q := 1) dL_act_0 rfl rfl ?_
  refine K.tableIn (off := 46) (tgt := 47) dL_act_1 (by decide) (by decide) (by decide) (by decide) ?_
  refine K.aload_n (q := 48) dL_act_47 rfl rfl ?_
  refine K.iload_n (q := 49) dL_act_48 rfl rfl ?_
  refine K.iload_n (q := 50) dL_act_49 rfl rfl ?_
  generalize e_X7_ask (X.1 0) a b = ee at hc he C
  rcases he with rfl | rfl | rfl | rfl
  · rw [aR_0] at C
    refine K.callV (q := 53) mkX7_ask mw_L_38 (ct_ok hc rfl) rfl (by decide) rfl (lt141 (by decide)) rx0 (Nat.le_of_ble_eq_true rfl) (Nat.le_of_ble_eq_true rfl) (Nat.le_of_ble_eq_true rfl) dL_act_50 rfl ?_
    exact C.iret rfl rfl rfl rfl (Nat.le_of_ble_eq_true rfl) (Nat.le_of_ble_eq_true rfl) dL_act_53
  · rw [aR_u] at C
    refine C.catchW (name := "java/lang/UnsupportedOperationException") (j := 4) (hp := 0) (ln := 2) (q := 87) mkX7_ask mw_L_38 (ct_ex hc (by decide)) rfl (by decide) rfl (lt141 (by decide)) rx0 (Nat.le_of_ble_eq_true rfl) (Nat.le_of_ble_eq_true rfl) (Nat.le_of_ble_eq_true rfl) dL_act_50 [⟨0, 46, 85, 57⟩] ⟨47, 53, 85, 57⟩ [⟨54, 59, 85, 57⟩, ⟨60, 65, 85, 57⟩, ⟨66, 72, 85, 57⟩, ⟨73, 78, 85, 57⟩, ⟨79, 84, 85, 57⟩, ⟨0, 46, 90, 59⟩, ⟨47, 53, 90, 59⟩, ⟨54, 59, 90, 59⟩, ⟨60, 65, 90, 59⟩, ⟨66, 72, 90, 59⟩, ⟨73, 78, 90, 59⟩, ⟨79, 84, 90, 59⟩, ⟨0, 46, 95, 61⟩, ⟨47, 53, 95, 61⟩, ⟨54, 59, 95, 61⟩, ⟨60, 65, 95, 61⟩, ⟨66, 72, 95, 61⟩, ⟨73, 78, 95, 61⟩, ⟨79, 84, 95, 61⟩] rfl (List.forall_mem_cons.mpr ⟨Or.inl rfl, fun _ h => absurd h List.not_mem_nil⟩) rfl (by decide) kw_L_57 cst_UOE (by decide) rfl (Or.inr ⟨rfl, dL_act_85⟩) rfl ?_
    refine K.bipush (q := 89) (v := (-2)) dL_act_87 rfl (by decide) ?_
    exact C.iret rfl rfl rfl rfl (Nat.le_of_ble_eq_true rfl) (Nat.le_of_ble_eq_true rfl) dL_act_89
  · rw [aR_a] at C
    refine C.catchW (name := "java/lang/IllegalArgumentException") (j := 4) (hp := 0) (ln := 2) (q := 92) mkX7_ask mw_L_38 (ct_ex hc (by decide)) rfl (by decide) rfl (lt141 (by decide)) rx0 (Nat.le_of_ble_eq_true rfl) (Nat.le_of_ble_eq_true rfl) (Nat.le_of_ble_eq_true rfl) dL_act_50 [⟨0, 46, 85, 57⟩, ⟨47, 53, 85, 57⟩, ⟨54, 59, 85, 57⟩, ⟨60, 65, 85, 57⟩, ⟨66, 72, 85, 57⟩, ⟨73, 78, 85, 57⟩, ⟨79, 84, 85, 57⟩, ⟨0, 46, 90, 59⟩] ⟨47, 53, 90, 59⟩ [⟨54, 59, 90, 59⟩, ⟨60, 65, 90, 59⟩, ⟨66, 72, 90, 59⟩, ⟨73, 78, 90, 59⟩, ⟨79, 84, 90, 59⟩, ⟨0, 46, 95, 61⟩, ⟨47, 53, 95, 61⟩, ⟨54, 59, 95, 61⟩, ⟨60, 65, 95, 61⟩, ⟨66, 72, 95, 61⟩, ⟨73, 78, 95, 61⟩, ⟨79, 84, 95, 61⟩] rfl (List.forall_mem_cons.mpr ⟨Or.inl rfl, List.forall_mem_cons.mpr ⟨Or.inr ⟨by decide, _, kw_L_57, ncs36.2.1⟩, List.forall_mem_cons.mpr ⟨Or.inl rfl, List.forall_mem_cons.mpr ⟨Or.inl rfl, List.forall_mem_cons.mpr ⟨Or.inl rfl, List.forall_mem_cons.mpr ⟨Or.inl rfl, List.forall_mem_cons.mpr ⟨Or.inl rfl, List.forall_mem_cons.mpr ⟨Or.inl rfl, fun _ h => absurd h List.not_mem_nil⟩⟩⟩⟩⟩⟩⟩⟩) rfl (by decide) kw_L_59 cst_IAE (by decide) rfl (Or.inr ⟨rfl, dL_act_90⟩) rfl ?_
    refine K.bipush (q := 94) (v := (-3)) dL_act_92 rfl (by decide) ?_
    exact C.iret rfl rfl rfl rfl (Nat.le_of_ble_eq_true rfl) (Nat.le_of_ble_eq_true rfl) dL_act_94
  · rw [aR_i] at C
    refine C.catchW (name := "java/lang/IndexOutOfBoundsException") (j := 4) (hp := 0) (ln := 2) (q := 97) mkX7_ask mw_L_38 (ct_ex hc (by decide)) rfl (by decide) rfl (lt141 (by decide)) rx0 (Nat.le_of_ble_eq_true rfl) (Nat.le_of_ble_eq_true rfl) (Nat.le_of_ble_eq_true rfl) dL_act_50 [⟨0, 46, 85, 57⟩, ⟨47, 53, 85, 57⟩, ⟨54, 59, 85, 57⟩, ⟨60, 65, 85, 57⟩, ⟨66, 72, 85, 57⟩, ⟨73, 78, 85, 57⟩, ⟨79, 84, 85, 57⟩, ⟨0, 46, 90, 59⟩, ⟨47, 53, 90, 59⟩, ⟨54, 59, 90, 59⟩, ⟨60, 65, 90, 59⟩, ⟨66, 72, 90, 59⟩, ⟨73, 78, 90, 59⟩, ⟨79, 84, 90, 59⟩, ⟨0, 46, 95, 61⟩] ⟨47, 53, 95, 61⟩ [⟨54, 59, 95, 61⟩, ⟨60, 65, 95, 61⟩, ⟨66, 72, 95, 61⟩, ⟨73, 78, 95, 61⟩, ⟨79, 84, 95, 61⟩] rfl (List.forall_mem_cons.mpr ⟨Or.inl rfl, List.forall_mem_cons.mpr ⟨Or.inr ⟨by decide, _, kw_L_57, ncs36.2.2.1⟩, List.forall_mem_cons.mpr ⟨Or.inl rfl, List.forall_mem_cons.mpr ⟨Or.inl rfl, List.forall_mem_cons.mpr ⟨Or.inl rfl, List.forall_mem_cons.mpr ⟨Or.inl rfl, List.forall_mem_cons.mpr ⟨Or.inl rfl, List.forall_mem_cons.mpr ⟨Or.inl rfl, List.forall_mem_cons.mpr ⟨Or.inr ⟨by decide, _, kw_L_59, ncs36.2.2.2⟩, List.forall_mem_cons.mpr ⟨Or.inl rfl, List.forall_mem_cons.mpr ⟨Or.inl rfl, List.forall_mem_cons.mpr ⟨Or.inl rfl, List.forall_mem_cons.mpr ⟨Or.inl rfl, List.forall_mem_cons.mpr ⟨Or.inl rfl, List.forall_mem_cons.mpr ⟨Or.inl rfl, fun _ h => absurd h List.not_mem_nil⟩⟩⟩⟩⟩⟩⟩⟩⟩⟩⟩⟩⟩⟩⟩) rfl (by decide) kw_L_61 cst_IOOBE (by decide) rfl (Or.inr ⟨rfl, dL_act_95⟩) rfl ?_
    refine K.bipush (q := 99) (v := (-3)) dL_act_97 rfl (by decide) ?_
    exact C.iret rfl rfl rfl rfl (Nat.le_of_ble_eq_true rfl) (Nat.le_of_ble_eq_true rfl) dL_act_99
theorem c7_give {X : GS} (hN : okI (X.2.1 0)) (a b : Int32) : Ct 7 1 6 yX7_give (.code yX7_give cX7_give 2 (some (.int))) [.ref 0, .int a] (mkH X) (rT (e_X7_give (X.1 0) a) (some (.int (r_X7_give (X.1 0) a)))) (mkH (sGive X a)) := by
  have h := s_X7_give X (X.1 0) a hN
  rw [uB_eta] at h
  exact h
theorem L_act2 {X : GS} (hN : okI (X.2.1 0)) (a b : Int32) : Ct 8 1 6 yL_act (.codeWith yL_act cL_act 5 (some (.int)) [(0, 46, 85, 57), (47, 53, 85, 57), (54, 59, 85, 57), (60, 65, 85, 57), (66, 72, 85, 57), (73, 78, 85, 57), (79, 84, 85, 57), (0, 46, 90, 59), (47, 53, 90, 59), (54, 59, 90, 59), (60, 65, 90, 59), (66, 72, 90, 59), (73, 78, 90, 59), (79, 84, 90, 59), (0, 46, 95, 61), (47, 53, 95, 61), (54, 59, 95, 61), (60, 65, 95, 61), (66, 72, 95, 61), (73, 78, 95, 61), (79, 84, 95, 61)]) [.ref 0, .int 2, .int a, .int b] (mkH X) (.inl (some (.int (aR (e_X7_give (X.1 0) a) (r_X7_give (X.1 0) a))))) (mkH (sGive X a)) := by
  refine Ct.ofH (LL := [some (.ref 0), some (.int 2), some (.int a), some (.int b), none]) mkL_act owL_act rfl (Nat.le_of_ble_eq_true rfl) rfl (fun Wk C => ?_)
  have K := C.core
  have hc := c7_give hN a b
  have he : e_X7_give (X.1 0) a = "" ∨ e_X7_give (X.1 0) a = "java/lang/UnsupportedOperationException" ∨ e_X7_give (X.1 0) a = "java/lang/IllegalArgumentException" ∨ e_X7_give (X.1 0) a = "java/lang/IndexOutOfBoundsException" := by
    rw [show e_X7_give (X.1 0) a = e_X7_insist (r_X7_judgeGive (X.1 0) a) from ins_e _]
    exact e_ins _
  refine K.iload_n (q := 1) dL_act_0 rfl rfl ?_
  refine K.tableIn (off := 53) (tgt := 54) dL_act_1 (by decide) (by decide) (by decide) (by decide) ?_
  refine K.aload_n (q := 55) dL_act_54 rfl rfl ?_
  refine K.iload_n (q := 56) dL_act_55 rfl rfl ?_
  generalize e_X7_give (X.1 0) a = ee at hc he C
  rcases he with rfl | rfl | rfl | rfl
  · rw [aR_0] at C
    refine K.callV (q := 59) mkX7_give mw_L_41 (ct_ok hc rfl) rfl (by decide) rfl (lt141 (by decide)) rx0 (Nat.le_of_ble_eq_true rfl) (Nat.le_of_ble_eq_true rfl) (Nat.le_of_ble_eq_true rfl) dL_act_56 rfl ?_
    exact C.iret rfl rfl rfl rfl (Nat.le_of_ble_eq_true rfl) (Nat.le_of_ble_eq_true rfl) dL_act_59
  · rw [aR_u] at C
    refine C.catchW (name := "java/lang/UnsupportedOperationException") (j := 4) (hp := 0) (ln := 2) (q := 87) mkX7_give mw_L_41 (ct_ex hc (by decide)) rfl (by decide) rfl (lt141 (by decide)) rx0 (Nat.le_of_ble_eq_true rfl) (Nat.le_of_ble_eq_true rfl) (Nat.le_of_ble_eq_true rfl) dL_act_56 [⟨0, 46, 85, 57⟩, ⟨47, 53, 85, 57⟩] ⟨54, 59, 85, 57⟩ [⟨60, 65, 85, 57⟩, ⟨66, 72, 85, 57⟩, ⟨73, 78, 85, 57⟩, ⟨79, 84, 85, 57⟩, ⟨0, 46, 90, 59⟩, ⟨47, 53, 90, 59⟩, ⟨54, 59, 90, 59⟩, ⟨60, 65, 90, 59⟩, ⟨66, 72, 90, 59⟩, ⟨73, 78, 90, 59⟩, ⟨79, 84, 90, 59⟩, ⟨0, 46, 95, 61⟩, ⟨47, 53, 95, 61⟩, ⟨54, 59, 95, 61⟩, ⟨60, 65, 95, 61⟩, ⟨66, 72, 95, 61⟩, ⟨73, 78, 95, 61⟩, ⟨79, 84, 95, 61⟩] rfl (List.forall_mem_cons.mpr ⟨Or.inl rfl, List.forall_mem_cons.mpr ⟨Or.inl rfl, fun _ h => absurd h List.not_mem_nil⟩⟩) rfl (by decide) kw_L_57 cst_UOE (by decide) rfl (Or.inr ⟨rfl, dL_act_85⟩) rfl ?_
    refine K.bipush (q := 89) (v := (-2)) dL_act_87 rfl (by decide) ?_
    exact C.iret rfl rfl rfl rfl (Nat.le_of_ble_eq_true rfl) (Nat.le_of_ble_eq_true rfl) dL_act_89
  · rw [aR_a] at C
    refine C.catchW (name := "java/lang/IllegalArgumentException") (j := 4) (hp := 0) (ln := 2) (q := 92) mkX7_give mw_L_41 (ct_ex hc (by decide)) rfl (by decide) rfl (lt141 (by decide)) rx0 (Nat.le_of_ble_eq_true rfl) (Nat.le_of_ble_eq_true rfl) (Nat.le_of_ble_eq_true rfl) dL_act_56 [⟨0, 46, 85, 57⟩, ⟨47, 53, 85, 57⟩, ⟨54, 59, 85, 57⟩, ⟨60, 65, 85, 57⟩, ⟨66, 72, 85, 57⟩, ⟨73, 78, 85, 57⟩, ⟨79, 84, 85, 57⟩, ⟨0, 46, 90, 59⟩, ⟨47, 53, 90, 59⟩] ⟨54, 59, 90, 59⟩ [⟨60, 65, 90, 59⟩, ⟨66, 72, 90, 59⟩, ⟨73, 78, 90, 59⟩, ⟨79, 84, 90, 59⟩, ⟨0, 46, 95, 61⟩, ⟨47, 53, 95, 61⟩, ⟨54, 59, 95, 61⟩, ⟨60, 65, 95, 61⟩, ⟨66, 72, 95, 61⟩, ⟨73, 78, 95, 61⟩, ⟨79, 84, 95, 61⟩] rfl (List.forall_mem_cons.mpr ⟨Or.inl rfl, List.forall_mem_cons.mpr ⟨Or.inl rfl, List.forall_mem_cons.mpr ⟨Or.inr ⟨by decide, _, kw_L_57, ncs36.2.1⟩, List.forall_mem_cons.mpr ⟨Or.inl rfl, List.forall_mem_cons.mpr ⟨Or.inl rfl, List.forall_mem_cons.mpr ⟨Or.inl rfl, List.forall_mem_cons.mpr ⟨Or.inl rfl, List.forall_mem_cons.mpr ⟨Or.inl rfl, List.forall_mem_cons.mpr ⟨Or.inl rfl, fun _ h => absurd h List.not_mem_nil⟩⟩⟩⟩⟩⟩⟩⟩⟩) rfl (by decide) kw_L_59 cst_IAE (by decide) rfl (Or.inr ⟨rfl, dL_act_90⟩) rfl ?_
    refine K.bipush (q := 94) (v := (-3)) dL_act_92 rfl (by decide) ?_
    exact C.iret rfl rfl rfl rfl (Nat.le_of_ble_eq_true rfl) (Nat.le_of_ble_eq_true rfl) dL_act_94
  · rw [aR_i] at C
    refine C.catchW (name := "java/lang/IndexOutOfBoundsException") (j := 4) (hp := 0) (ln := 2) (q := 97) mkX7_give mw_L_41 (ct_ex hc (by decide)) rfl (by decide) rfl (lt141 (by decide)) rx0 (Nat.le_of_ble_eq_true rfl) (Nat.le_of_ble_eq_true rfl) (Nat.le_of_ble_eq_true rfl) dL_act_56 [⟨0, 46, 85, 57⟩, ⟨47, 53, 85, 57⟩, ⟨54, 59, 85, 57⟩, ⟨60, 65, 85, 57⟩, ⟨66, 72, 85, 57⟩, ⟨73, 78, 85, 57⟩, ⟨79, 84, 85, 57⟩, ⟨0, 46, 90, 59⟩, ⟨47, 53, 90, 59⟩, ⟨54, 59, 90, 59⟩, ⟨60, 65, 90, 59⟩, ⟨66, 72, 90, 59⟩, ⟨73, 78, 90, 59⟩, ⟨79, 84, 90, 59⟩, ⟨0, 46, 95, 61⟩, ⟨47, 53, 95, 61⟩] ⟨54, 59, 95, 61⟩ [⟨60, 65, 95, 61⟩, ⟨66, 72, 95, 61⟩, ⟨73, 78, 95, 61⟩, ⟨79, 84, 95, 61⟩] rfl (List.forall_mem_cons.mpr ⟨Or.inl rfl, List.forall_mem_cons.mpr ⟨Or.inl rfl, List.forall_mem_cons.mpr ⟨Or.inr ⟨by decide, _, kw_L_57, ncs36.2.2.1⟩, List.forall_mem_cons.mpr ⟨Or.inl rfl, List.forall_mem_cons.mpr ⟨Or.inl rfl, List.forall_mem_cons.mpr ⟨Or.inl rfl, List.forall_mem_cons.mpr ⟨Or.inl rfl, List.forall_mem_cons.mpr ⟨Or.inl rfl, List.forall_mem_cons.mpr ⟨Or.inl rfl, List.forall_mem_cons.mpr ⟨Or.inr ⟨by decide, _, kw_L_59, ncs36.2.2.2⟩, List.forall_mem_cons.mpr ⟨Or.inl rfl, List.forall_mem_cons.mpr ⟨Or.inl rfl, List.forall_mem_cons.mpr ⟨Or.inl rfl, List.forall_mem_cons.mpr ⟨Or.inl rfl, List.forall_mem_cons.mpr ⟨Or.inl rfl, List.forall_mem_cons.mpr ⟨Or.inl rfl, fun _ h => absurd h List.not_mem_nil⟩⟩⟩⟩⟩⟩⟩⟩⟩⟩⟩⟩⟩⟩⟩⟩) rfl (by decide) kw_L_61 cst_IOOBE (by decide) rfl (Or.inr ⟨rfl, dL_act_95⟩) rfl ?_
    refine K.bipush (q := 99) (v := (-3)) dL_act_97 rfl (by decide) ?_
    exact C.iret rfl rfl rfl rfl (Nat.le_of_ble_eq_true rfl) (Nat.le_of_ble_eq_true rfl) dL_act_99
theorem c7_giveAll {X : GS} (hN : okI (X.2.1 0)) (a b : Int32) : Ct 7 1 6 yX7_giveAll (.code yX7_giveAll cX7_giveAll 2 (some (.int))) [.ref 0, .int a] (mkH X) (rT (e_X7_giveAll (X.1 0) a) (some (.int (r_X7_giveAll (X.1 0) a)))) (mkH (sGiveAll X a)) := by
  have h := s_X7_giveAll X (X.1 0) a hN
  rw [uB_eta] at h
  exact h
theorem L_act3 {X : GS} (hN : okI (X.2.1 0)) (a b : Int32) : Ct 8 1 6 yL_act (.codeWith yL_act cL_act 5 (some (.int)) [(0, 46, 85, 57), (47, 53, 85, 57), (54, 59, 85, 57), (60, 65, 85, 57), (66, 72, 85, 57), (73, 78, 85, 57), (79, 84, 85, 57), (0, 46, 90, 59), (47, 53, 90, 59), (54, 59, 90, 59), (60, 65, 90, 59), (66, 72, 90, 59), (73, 78, 90, 59), (79, 84, 90, 59), (0, 46, 95, 61), (47, 53, 95, 61), (54, 59, 95, 61), (60, 65, 95, 61), (66, 72, 95, 61), (73, 78, 95, 61), (79, 84, 95, 61)]) [.ref 0, .int 3, .int a, .int b] (mkH X) (.inl (some (.int (aR (e_X7_giveAll (X.1 0) a) (r_X7_giveAll (X.1 0) a))))) (mkH (sGiveAll X a)) := by
  refine Ct.ofH (LL := [some (.ref 0), some (.int 3), some (.int a), some (.int b), none]) mkL_act owL_act rfl (Nat.le_of_ble_eq_true rfl) rfl (fun Wk C => ?_)
  have K := C.core
  have hc := c7_giveAll hN a b
  have he : e_X7_giveAll (X.1 0) a = "" ∨ e_X7_giveAll (X.1 0) a = "java/lang/UnsupportedOperationException" ∨ e_X7_giveAll (X.1 0) a = "java/lang/IllegalArgumentException" ∨ e_X7_giveAll (X.1 0) a = "java/lang/IndexOutOfBoundsException" := by
    rw [show e_X7_giveAll (X.1 0) a = e_X7_insist (r_X7_judgeGiveAll (X.1 0) a) from ins_e _]
    exact e_ins _
  refine K.iload_n (q := 1) dL_act_0 rfl rfl ?_
  refine K.tableIn (off := 59) (tgt := 60) dL_act_1 (by decide) (by decide) (by decide) (by decide) ?_
  refine K.aload_n (q := 61) dL_act_60 rfl rfl ?_
  refine K.iload_n (q := 62) dL_act_61 rfl rfl ?_
  generalize e_X7_giveAll (X.1 0) a = ee at hc he C
  rcases he with rfl | rfl | rfl | rfl
  · rw [aR_0] at C
    refine K.callV (q := 65) mkX7_giveAll mw_L_45 (ct_ok hc rfl) rfl (by decide) rfl (lt141 (by decide)) rx0 (Nat.le_of_ble_eq_true rfl) (Nat.le_of_ble_eq_true rfl) (Nat.le_of_ble_eq_true rfl) dL_act_62 rfl ?_
    exact C.iret rfl rfl rfl rfl (Nat.le_of_ble_eq_true rfl) (Nat.le_of_ble_eq_true rfl) dL_act_65
  · rw [aR_u] at C
    refine C.catchW (name := "java/lang/UnsupportedOperationException") (j := 4) (hp := 0) (ln := 2) (q := 87) mkX7_giveAll mw_L_45 (ct_ex hc (by decide)) rfl (by decide) rfl (lt141 (by decide)) rx0 (Nat.le_of_ble_eq_true rfl) (Nat.le_of_ble_eq_true rfl) (Nat.le_of_ble_eq_true rfl) dL_act_62 [⟨0, 46, 85, 57⟩, ⟨47, 53, 85, 57⟩, ⟨54, 59, 85, 57⟩] ⟨60, 65, 85, 57⟩ [⟨66, 72, 85, 57⟩, ⟨73, 78, 85, 57⟩, ⟨79, 84, 85, 57⟩, ⟨0, 46, 90, 59⟩, ⟨47, 53, 90, 59⟩, ⟨54, 59, 90, 59⟩, ⟨60, 65, 90, 59⟩, ⟨66, 72, 90, 59⟩, ⟨73, 78, 90, 59⟩, ⟨79, 84, 90, 59⟩, ⟨0, 46, 95, 61⟩, ⟨47, 53, 95, 61⟩, ⟨54, 59, 95, 61⟩, ⟨60, 65, 95, 61⟩, ⟨66, 72, 95, 61⟩, ⟨73, 78, 95, 61⟩, ⟨79, 84, 95, 61⟩] rfl (List.forall_mem_cons.mpr ⟨Or.inl rfl, List.forall_mem_cons.mpr ⟨Or.inl rfl, List.forall_mem_cons.mpr ⟨Or.inl rfl, fun _ h => absurd h List.not_mem_nil⟩⟩⟩) rfl (by decide) kw_L_57 cst_UOE (by decide) rfl (Or.inr ⟨rfl, dL_act_85⟩) rfl ?_
    refine K.bipush (q := 89) (v := (-2)) dL_act_87 rfl (by decide) ?_
    exact C.iret rfl rfl rfl rfl (Nat.le_of_ble_eq_true rfl) (Nat.le_of_ble_eq_true rfl) dL_act_89
  · rw [aR_a] at C
    refine C.catchW (name := "java/lang/IllegalArgumentException") (j := 4) (hp := 0) (ln := 2) (q := 92) mkX7_giveAll mw_L_45 (ct_ex hc (by decide)) rfl (by decide) rfl (lt141 (by decide)) rx0 (Nat.le_of_ble_eq_true rfl) (Nat.le_of_ble_eq_true rfl) (Nat.le_of_ble_eq_true rfl) dL_act_62 [⟨0, 46, 85, 57⟩, ⟨47, 53, 85, 57⟩, ⟨54, 59, 85, 57⟩, ⟨60, 65, 85, 57⟩, ⟨66, 72, 85, 57⟩, ⟨73, 78, 85, 57⟩, ⟨79, 84, 85, 57⟩, ⟨0, 46, 90, 59⟩, ⟨47, 53, 90, 59⟩, ⟨54, 59, 90, 59⟩] ⟨60, 65, 90, 59⟩ [⟨66, 72, 90, 59⟩, ⟨73, 78, 90, 59⟩, ⟨79, 84, 90, 59⟩, ⟨0, 46, 95, 61⟩, ⟨47, 53, 95, 61⟩, ⟨54, 59, 95, 61⟩, ⟨60, 65, 95, 61⟩, ⟨66, 72, 95, 61⟩, ⟨73, 78, 95, 61⟩, ⟨79, 84, 95, 61⟩] rfl (List.forall_mem_cons.mpr ⟨Or.inl rfl, List.forall_mem_cons.mpr ⟨Or.inl rfl, List.forall_mem_cons.mpr ⟨Or.inl rfl, List.forall_mem_cons.mpr ⟨Or.inr ⟨by decide, _, kw_L_57, ncs36.2.1⟩, List.forall_mem_cons.mpr ⟨Or.inl rfl, List.forall_mem_cons.mpr ⟨Or.inl rfl, List.forall_mem_cons.mpr ⟨Or.inl rfl, List.forall_mem_cons.mpr ⟨Or.inl rfl, List.forall_mem_cons.mpr ⟨Or.inl rfl, List.forall_mem_cons.mpr ⟨Or.inl rfl, fun _ h => absurd h List.not_mem_nil⟩⟩⟩⟩⟩⟩⟩⟩⟩⟩) rfl (by decide) kw_L_59 cst_IAE (by decide) rfl (Or.inr ⟨rfl, dL_act_90⟩) rfl ?_
    refine K.bipush (q := 94) (v := (-3)) dL_act_92 rfl (by decide) ?_
    exact C.iret rfl rfl rfl rfl (Nat.le_of_ble_eq_true rfl) (Nat.le_of_ble_eq_true rfl) dL_act_94
  · rw [aR_i] at C
    refine C.catchW (name := "java/lang/IndexOutOfBoundsException") (j := 4) (hp := 0) (ln := 2) (q := 97) mkX7_giveAll mw_L_45 (ct_ex hc (by decide)) rfl (by decide) rfl (lt141 (by decide)) rx0 (Nat.le_of_ble_eq_true rfl) (Nat.le_of_ble_eq_true rfl) (Nat.le_of_ble_eq_true rfl) dL_act_62 [⟨0, 46, 85, 57⟩, ⟨47, 53, 85, 57⟩, ⟨54, 59, 85, 57⟩, ⟨60, 65, 85, 57⟩, ⟨66, 72, 85, 57⟩, ⟨73, 78, 85, 57⟩, ⟨79, 84, 85, 57⟩, ⟨0, 46, 90, 59⟩, ⟨47, 53, 90, 59⟩, ⟨54, 59, 90, 59⟩, ⟨60, 65, 90, 59⟩, ⟨66, 72, 90, 59⟩, ⟨73, 78, 90, 59⟩, ⟨79, 84, 90, 59⟩, ⟨0, 46, 95, 61⟩, ⟨47, 53, 95, 61⟩, ⟨54, 59, 95, 61⟩] ⟨60, 65, 95, 61⟩ [⟨66, 72, 95, 61⟩, ⟨73, 78, 95, 61⟩, ⟨79, 84, 95, 61⟩] rfl (List.forall_mem_cons.mpr ⟨Or.inl rfl, List.forall_mem_cons.mpr ⟨Or.inl rfl, List.forall_mem_cons.mpr ⟨Or.inl rfl, List.forall_mem_cons.mpr ⟨Or.inr ⟨by decide, _, kw_L_57, ncs36.2.2.1⟩, List.forall_mem_cons.mpr ⟨Or.inl rfl, List.forall_mem_cons.mpr ⟨Or.inl rfl, List.forall_mem_cons.mpr ⟨Or.inl rfl, List.forall_mem_cons.mpr ⟨Or.inl rfl, List.forall_mem_cons.mpr ⟨Or.inl rfl, List.forall_mem_cons.mpr ⟨Or.inl rfl, List.forall_mem_cons.mpr ⟨Or.inr ⟨by decide, _, kw_L_59, ncs36.2.2.2⟩, List.forall_mem_cons.mpr ⟨Or.inl rfl, List.forall_mem_cons.mpr ⟨Or.inl rfl, List.forall_mem_cons.mpr ⟨Or.inl rfl, List.forall_mem_cons.mpr ⟨Or.inl rfl, List.forall_mem_cons.mpr ⟨Or.inl rfl, List.forall_mem_cons.mpr ⟨Or.inl rfl, fun _ h => absurd h List.not_mem_nil⟩⟩⟩⟩⟩⟩⟩⟩⟩⟩⟩⟩⟩⟩⟩⟩⟩) rfl (by decide) kw_L_61 cst_IOOBE (by decide) rfl (Or.inr ⟨rfl, dL_act_95⟩) rfl ?_
    refine K.bipush (q := 99) (v := (-3)) dL_act_97 rfl (by decide) ?_
    exact C.iret rfl rfl rfl rfl (Nat.le_of_ble_eq_true rfl) (Nat.le_of_ble_eq_true rfl) dL_act_99
theorem c7_resize {X : GS} (hN : okI (X.2.1 0)) (a b : Int32) : Ct 7 1 6 yX7_resize (.code yX7_resize cX7_resize 3 (some (.int))) [.ref 0, .int a, .int b] (mkH X) (rT (e_X7_resize (X.1 0) a b) (some (.int (r_X7_resize (X.1 0) a b)))) (mkH (sResize X a b)) := by
  have h := s_X7_resize X (X.1 0) a b hN
  rw [uB_eta] at h
  exact h
theorem L_act4 {X : GS} (hN : okI (X.2.1 0)) (a b : Int32) : Ct 8 1 6 yL_act (.codeWith yL_act cL_act 5 (some (.int)) [(0, 46, 85, 57), (47, 53, 85, 57), (54, 59, 85, 57), (60, 65, 85, 57), (66, 72, 85, 57), (73, 78, 85, 57), (79, 84, 85, 57), (0, 46, 90, 59), (47, 53, 90, 59), (54, 59, 90, 59), (60, 65, 90, 59), (66, 72, 90, 59), (73, 78, 90, 59), (79, 84, 90, 59), (0, 46, 95, 61), (47, 53, 95, 61), (54, 59, 95, 61), (60, 65, 95, 61), (66, 72, 95, 61), (73, 78, 95, 61), (79, 84, 95, 61)]) [.ref 0, .int 4, .int a, .int b] (mkH X) (.inl (some (.int (aR (e_X7_resize (X.1 0) a b) (r_X7_resize (X.1 0) a b))))) (mkH (sResize X a b)) := by
  refine Ct.ofH (LL := [some (.ref 0), some (.int 4), some (.int a), some (.int b), none]) mkL_act owL_act rfl (Nat.le_of_ble_eq_true rfl) rfl (fun Wk C => ?_)
  have K := C.core
  have hc := c7_resize hN a b
  have he : e_X7_resize (X.1 0) a b = "" ∨ e_X7_resize (X.1 0) a b = "java/lang/UnsupportedOperationException" ∨ e_X7_resize (X.1 0) a b = "java/lang/IllegalArgumentException" ∨ e_X7_resize (X.1 0) a b = "java/lang/IndexOutOfBoundsException" := by
    rw [show e_X7_resize (X.1 0) a b = e_X7_insist (r_X7_judgeResize (X.1 0) a b) from ins_e _]
    exact e_ins _
  refine K.iload_n (q := 1) dL_act_0 rfl rfl ?_
  refine K.tableIn (off := 65) (tgt := 66) dL_act_1 (by decide) (by decide) (by decide) (by decide) ?_
  refine K.aload_n (q := 67) dL_act_66 rfl rfl ?_
  refine K.iload_n (q := 68) dL_act_67 rfl rfl ?_
  refine K.iload_n (q := 69) dL_act_68 rfl rfl ?_
  generalize e_X7_resize (X.1 0) a b = ee at hc he C
  rcases he with rfl | rfl | rfl | rfl
  · rw [aR_0] at C
    refine K.callV (q := 72) mkX7_resize mw_L_48 (ct_ok hc rfl) rfl (by decide) rfl (lt141 (by decide)) rx0 (Nat.le_of_ble_eq_true rfl) (Nat.le_of_ble_eq_true rfl) (Nat.le_of_ble_eq_true rfl) dL_act_69 rfl ?_
    exact C.iret rfl rfl rfl rfl (Nat.le_of_ble_eq_true rfl) (Nat.le_of_ble_eq_true rfl) dL_act_72
  · rw [aR_u] at C
    refine C.catchW (name := "java/lang/UnsupportedOperationException") (j := 4) (hp := 0) (ln := 2) (q := 87) mkX7_resize mw_L_48 (ct_ex hc (by decide)) rfl (by decide) rfl (lt141 (by decide)) rx0 (Nat.le_of_ble_eq_true rfl) (Nat.le_of_ble_eq_true rfl) (Nat.le_of_ble_eq_true rfl) dL_act_69 [⟨0, 46, 85, 57⟩, ⟨47, 53, 85, 57⟩, ⟨54, 59, 85, 57⟩, ⟨60, 65, 85, 57⟩] ⟨66, 72, 85, 57⟩ [⟨73, 78, 85, 57⟩, ⟨79, 84, 85, 57⟩, ⟨0, 46, 90, 59⟩, ⟨47, 53, 90, 59⟩, ⟨54, 59, 90, 59⟩, ⟨60, 65, 90, 59⟩, ⟨66, 72, 90, 59⟩, ⟨73, 78, 90, 59⟩, ⟨79, 84, 90, 59⟩, ⟨0, 46, 95, 61⟩, ⟨47, 53, 95, 61⟩, ⟨54, 59, 95, 61⟩, ⟨60, 65, 95, 61⟩, ⟨66, 72, 95, 61⟩, ⟨73, 78, 95, 61⟩, ⟨79, 84, 95, 61⟩] rfl (List.forall_mem_cons.mpr ⟨Or.inl rfl, List.forall_mem_cons.mpr ⟨Or.inl rfl, List.forall_mem_cons.mpr ⟨Or.inl rfl, List.forall_mem_cons.mpr ⟨Or.inl rfl, fun _ h => absurd h List.not_mem_nil⟩⟩⟩⟩) rfl (by decide) kw_L_57 cst_UOE (by decide) rfl (Or.inr ⟨rfl, dL_act_85⟩) rfl ?_
    refine K.bipush (q := 89) (v := (-2)) dL_act_87 rfl (by decide) ?_
    exact C.iret rfl rfl rfl rfl (Nat.le_of_ble_eq_true rfl) (Nat.le_of_ble_eq_true rfl) dL_act_89
  · rw [aR_a] at C
    refine C.catchW (name := "java/lang/IllegalArgumentException") (j := 4) (hp := 0) (ln := 2) (q := 92) mkX7_resize mw_L_48 (ct_ex hc (by decide)) rfl (by decide) rfl (lt141 (by decide)) rx0 (Nat.le_of_ble_eq_true rfl) (Nat.le_of_ble_eq_true rfl) (Nat.le_of_ble_eq_true rfl) dL_act_69 [⟨0, 46, 85, 57⟩, ⟨47, 53, 85, 57⟩, ⟨54, 59, 85, 57⟩, ⟨60, 65, 85, 57⟩, ⟨66, 72, 85, 57⟩, ⟨73, 78, 85, 57⟩, ⟨79, 84, 85, 57⟩, ⟨0, 46, 90, 59⟩, ⟨47, 53, 90, 59⟩, ⟨54, 59, 90, 59⟩, ⟨60, 65, 90, 59⟩] ⟨66, 72, 90, 59⟩ [⟨73, 78, 90, 59⟩, ⟨79, 84, 90, 59⟩, ⟨0, 46, 95, 61⟩, ⟨47, 53, 95, 61⟩, ⟨54, 59, 95, 61⟩, ⟨60, 65, 95, 61⟩, ⟨66, 72, 95, 61⟩, ⟨73, 78, 95, 61⟩, ⟨79, 84, 95, 61⟩] rfl (List.forall_mem_cons.mpr ⟨Or.inl rfl, List.forall_mem_cons.mpr ⟨Or.inl rfl, List.forall_mem_cons.mpr ⟨Or.inl rfl, List.forall_mem_cons.mpr ⟨Or.inl rfl, List.forall_mem_cons.mpr ⟨Or.inr ⟨by decide, _, kw_L_57, ncs36.2.1⟩, List.forall_mem_cons.mpr ⟨Or.inl rfl, List.forall_mem_cons.mpr ⟨Or.inl rfl, List.forall_mem_cons.mpr ⟨Or.inl rfl, List.forall_mem_cons.mpr ⟨Or.inl rfl, List.forall_mem_cons.mpr ⟨Or.inl rfl, List.forall_mem_cons.mpr ⟨Or.inl rfl, fun _ h => absurd h List.not_mem_nil⟩⟩⟩⟩⟩⟩⟩⟩⟩⟩⟩) rfl (by decide) kw_L_59 cst_IAE (by decide) rfl (Or.inr ⟨rfl, dL_act_90⟩) rfl ?_
    refine K.bipush (q := 94) (v := (-3)) dL_act_92 rfl (by decide) ?_
    exact C.iret rfl rfl rfl rfl (Nat.le_of_ble_eq_true rfl) (Nat.le_of_ble_eq_true rfl) dL_act_94
  · rw [aR_i] at C
    refine C.catchW (name := "java/lang/IndexOutOfBoundsException") (j := 4) (hp := 0) (ln := 2) (q := 97) mkX7_resize mw_L_48 (ct_ex hc (by decide)) rfl (by decide) rfl (lt141 (by decide)) rx0 (Nat.le_of_ble_eq_true rfl) (Nat.le_of_ble_eq_true rfl) (Nat.le_of_ble_eq_true rfl) dL_act_69 [⟨0, 46, 85, 57⟩, ⟨47, 53, 85, 57⟩, ⟨54, 59, 85, 57⟩, ⟨60, 65, 85, 57⟩, ⟨66, 72, 85, 57⟩, ⟨73, 78, 85, 57⟩, ⟨79, 84, 85, 57⟩, ⟨0, 46, 90, 59⟩, ⟨47, 53, 90, 59⟩, ⟨54, 59, 90, 59⟩, ⟨60, 65, 90, 59⟩, ⟨66, 72, 90, 59⟩, ⟨73, 78, 90, 59⟩, ⟨79, 84, 90, 59⟩, ⟨0, 46, 95, 61⟩, ⟨47, 53, 95, 61⟩, ⟨54, 59, 95, 61⟩, ⟨60, 65, 95, 61⟩] ⟨66, 72, 95, 61⟩ [⟨73, 78, 95, 61⟩, ⟨79, 84, 95, 61⟩] rfl (List.forall_mem_cons.mpr ⟨Or.inl rfl, List.forall_mem_cons.mpr ⟨Or.inl rfl, List.forall_mem_cons.mpr ⟨Or.inl rfl, List.forall_mem_cons.mpr ⟨Or.inl rfl, List.forall_mem_cons.mpr ⟨Or.inr ⟨by decide, _, kw_L_57, ncs36.2.2.1⟩, List.forall_mem_cons.mpr ⟨Or.inl rfl, List.forall_mem_cons.mpr ⟨Or.inl rfl, List.forall_mem_cons.mpr ⟨Or.inl rfl, List.forall_mem_cons.mpr ⟨Or.inl rfl, List.forall_mem_cons.mpr ⟨Or.inl rfl, List.forall_mem_cons.mpr ⟨Or.inl rfl, List.forall_mem_cons.mpr ⟨Or.inr ⟨by decide, _, kw_L_59, ncs36.2.2.2⟩, List.forall_mem_cons.mpr ⟨Or.inl rfl, List.forall_mem_cons.mpr ⟨Or.inl rfl, List.forall_mem_cons.mpr ⟨Or.inl rfl, List.forall_mem_cons.mpr ⟨Or.inl rfl, List.forall_mem_cons.mpr ⟨Or.inl rfl, List.forall_mem_cons.mpr ⟨Or.inl rfl, fun _ h => absurd h List.not_mem_nil⟩⟩⟩⟩⟩⟩⟩⟩⟩⟩⟩⟩⟩⟩⟩⟩⟩⟩) rfl (by decide) kw_L_61 cst_IOOBE (by decide) rfl (Or.inr ⟨rfl, dL_act_95⟩) rfl ?_
    refine K.bipush (q := 99) (v := (-3)) dL_act_97 rfl (by decide) ?_
    exact C.iret rfl rfl rfl rfl (Nat.le_of_ble_eq_true rfl) (Nat.le_of_ble_eq_true rfl) dL_act_99
theorem c7_way {X : GS} (hN : okI (X.2.1 0)) (a b : Int32) : Ct 7 1 6 yX7_way (.code yX7_way cX7_way 2 (some (.int))) [.ref 0, .int a] (mkH X) (rT (e_X7_way (X.1 0) a) (some (.int (r_X7_way (X.1 0) a)))) (mkH (sWay X a)) := by
  have h := s_X7_way X (X.1 0) a hN
  rw [uB_eta] at h
  exact h
theorem L_act5 {X : GS} (hN : okI (X.2.1 0)) (a b : Int32) : Ct 8 1 6 yL_act (.codeWith yL_act cL_act 5 (some (.int)) [(0, 46, 85, 57), (47, 53, 85, 57), (54, 59, 85, 57), (60, 65, 85, 57), (66, 72, 85, 57), (73, 78, 85, 57), (79, 84, 85, 57), (0, 46, 90, 59), (47, 53, 90, 59), (54, 59, 90, 59), (60, 65, 90, 59), (66, 72, 90, 59), (73, 78, 90, 59), (79, 84, 90, 59), (0, 46, 95, 61), (47, 53, 95, 61), (54, 59, 95, 61), (60, 65, 95, 61), (66, 72, 95, 61), (73, 78, 95, 61), (79, 84, 95, 61)]) [.ref 0, .int 5, .int a, .int b] (mkH X) (.inl (some (.int (aR (e_X7_way (X.1 0) a) (r_X7_way (X.1 0) a))))) (mkH (sWay X a)) := by
  refine Ct.ofH (LL := [some (.ref 0), some (.int 5), some (.int a), some (.int b), none]) mkL_act owL_act rfl (Nat.le_of_ble_eq_true rfl) rfl (fun Wk C => ?_)
  have K := C.core
  have hc := c7_way hN a b
  have he : e_X7_way (X.1 0) a = "" ∨ e_X7_way (X.1 0) a = "java/lang/UnsupportedOperationException" ∨ e_X7_way (X.1 0) a = "java/lang/IllegalArgumentException" ∨ e_X7_way (X.1 0) a = "java/lang/IndexOutOfBoundsException" := by
    rw [show e_X7_way (X.1 0) a = e_X7_insist (r_X7_judgeWay (X.1 0) a) from ins_e _]
    exact e_ins _
  refine K.iload_n (q := 1) dL_act_0 rfl rfl ?_
  refine K.tableIn (off := 72) (tgt := 73) dL_act_1 (by decide) (by decide) (by decide) (by decide) ?_
  refine K.aload_n (q := 74) dL_act_73 rfl rfl ?_
  refine K.iload_n (q := 75) dL_act_74 rfl rfl ?_
  generalize e_X7_way (X.1 0) a = ee at hc he C
  rcases he with rfl | rfl | rfl | rfl
  · rw [aR_0] at C
    refine K.callV (q := 78) mkX7_way mw_L_51 (ct_ok hc rfl) rfl (by decide) rfl (lt141 (by decide)) rx0 (Nat.le_of_ble_eq_true rfl) (Nat.le_of_ble_eq_true rfl) (Nat.le_of_ble_eq_true rfl) dL_act_75 rfl ?_
    exact C.iret rfl rfl rfl rfl (Nat.le_of_ble_eq_true rfl) (Nat.le_of_ble_eq_true rfl) dL_act_78
  · rw [aR_u] at C
    refine C.catchW (name := "java/lang/UnsupportedOperationException") (j := 4) (hp := 0) (ln := 2) (q := 87) mkX7_way mw_L_51 (ct_ex hc (by decide)) rfl (by decide) rfl (lt141 (by decide)) rx0 (Nat.le_of_ble_eq_true rfl) (Nat.le_of_ble_eq_true rfl) (Nat.le_of_ble_eq_true rfl) dL_act_75 [⟨0, 46, 85, 57⟩, ⟨47, 53, 85, 57⟩, ⟨54, 59, 85, 57⟩, ⟨60, 65, 85, 57⟩, ⟨66, 72, 85, 57⟩] ⟨73, 78, 85, 57⟩ [⟨79, 84, 85, 57⟩, ⟨0, 46, 90, 59⟩, ⟨47, 53, 90, 59⟩, ⟨54, 59, 90, 59⟩, ⟨60, 65, 90, 59⟩, ⟨66, 72, 90, 59⟩, ⟨73, 78, 90, 59⟩, ⟨79, 84, 90, 59⟩, ⟨0, 46, 95, 61⟩, ⟨47, 53, 95, 61⟩, ⟨54, 59, 95, 61⟩, ⟨60, 65, 95, 61⟩, ⟨66, 72, 95, 61⟩, ⟨73, 78, 95, 61⟩, ⟨79, 84, 95, 61⟩] rfl (List.forall_mem_cons.mpr ⟨Or.inl rfl, List.forall_mem_cons.mpr ⟨Or.inl rfl, List.forall_mem_cons.mpr ⟨Or.inl rfl, List.forall_mem_cons.mpr ⟨Or.inl rfl, List.forall_mem_cons.mpr ⟨Or.inl rfl, fun _ h => absurd h List.not_mem_nil⟩⟩⟩⟩⟩) rfl (by decide) kw_L_57 cst_UOE (by decide) rfl (Or.inr ⟨rfl, dL_act_85⟩) rfl ?_
    refine K.bipush (q := 89) (v := (-2)) dL_act_87 rfl (by decide) ?_
    exact C.iret rfl rfl rfl rfl (Nat.le_of_ble_eq_true rfl) (Nat.le_of_ble_eq_true rfl) dL_act_89
  · rw [aR_a] at C
    refine C.catchW (name := "java/lang/IllegalArgumentException") (j := 4) (hp := 0) (ln := 2) (q := 92) mkX7_way mw_L_51 (ct_ex hc (by decide)) rfl (by decide) rfl (lt141 (by decide)) rx0 (Nat.le_of_ble_eq_true rfl) (Nat.le_of_ble_eq_true rfl) (Nat.le_of_ble_eq_true rfl) dL_act_75 [⟨0, 46, 85, 57⟩, ⟨47, 53, 85, 57⟩, ⟨54, 59, 85, 57⟩, ⟨60, 65, 85, 57⟩, ⟨66, 72, 85, 57⟩, ⟨73, 78, 85, 57⟩, ⟨79, 84, 85, 57⟩, ⟨0, 46, 90, 59⟩, ⟨47, 53, 90, 59⟩, ⟨54, 59, 90, 59⟩, ⟨60, 65, 90, 59⟩, ⟨66, 72, 90, 59⟩] ⟨73, 78, 90, 59⟩ [⟨79, 84, 90, 59⟩, ⟨0, 46, 95, 61⟩, ⟨47, 53, 95, 61⟩, ⟨54, 59, 95, 61⟩, ⟨60, 65, 95, 61⟩, ⟨66, 72, 95, 61⟩, ⟨73, 78, 95, 61⟩, ⟨79, 84, 95, 61⟩] rfl (List.forall_mem_cons.mpr ⟨Or.inl rfl, List.forall_mem_cons.mpr ⟨Or.inl rfl, List.forall_mem_cons.mpr ⟨Or.inl rfl, List.forall_mem_cons.mpr ⟨Or.inl rfl, List.forall_mem_cons.mpr ⟨Or.inl rfl, List.forall_mem_cons.mpr ⟨Or.inr ⟨by decide, _, kw_L_57, ncs36.2.1⟩, List.forall_mem_cons.mpr ⟨Or.inl rfl, List.forall_mem_cons.mpr ⟨Or.inl rfl, List.forall_mem_cons.mpr ⟨Or.inl rfl, List.forall_mem_cons.mpr ⟨Or.inl rfl, List.forall_mem_cons.mpr ⟨Or.inl rfl, List.forall_mem_cons.mpr ⟨Or.inl rfl, fun _ h => absurd h List.not_mem_nil⟩⟩⟩⟩⟩⟩⟩⟩⟩⟩⟩⟩) rfl (by decide) kw_L_59 cst_IAE (by decide) rfl (Or.inr ⟨rfl, dL_act_90⟩) rfl ?_
    refine K.bipush (q := 94) (v := (-3)) dL_act_92 rfl (by decide) ?_
    exact C.iret rfl rfl rfl rfl (Nat.le_of_ble_eq_true rfl) (Nat.le_of_ble_eq_true rfl) dL_act_94
  · rw [aR_i] at C
    refine C.catchW (name := "java/lang/IndexOutOfBoundsException") (j := 4) (hp := 0) (ln := 2) (q := 97) mkX7_way mw_L_51 (ct_ex hc (by decide)) rfl (by decide) rfl (lt141 (by decide)) rx0 (Nat.le_of_ble_eq_true rfl) (Nat.le_of_ble_eq_true rfl) (Nat.le_of_ble_eq_true rfl) dL_act_75 [⟨0, 46, 85, 57⟩, ⟨47, 53, 85, 57⟩, ⟨54, 59, 85, 57⟩, ⟨60, 65, 85, 57⟩, ⟨66, 72, 85, 57⟩, ⟨73, 78, 85, 57⟩, ⟨79, 84, 85, 57⟩, ⟨0, 46, 90, 59⟩, ⟨47, 53, 90, 59⟩, ⟨54, 59, 90, 59⟩, ⟨60, 65, 90, 59⟩, ⟨66, 72, 90, 59⟩, ⟨73, 78, 90, 59⟩, ⟨79, 84, 90, 59⟩, ⟨0, 46, 95, 61⟩, ⟨47, 53, 95, 61⟩, ⟨54, 59, 95, 61⟩, ⟨60, 65, 95, 61⟩, ⟨66, 72, 95, 61⟩] ⟨73, 78, 95, 61⟩ [⟨79, 84, 95, 61⟩] rfl (List.forall_mem_cons.mpr ⟨Or.inl rfl, List.forall_mem_cons.mpr ⟨Or.inl rfl, List.forall_mem_cons.mpr ⟨Or.inl rfl, List.forall_mem_cons.mpr ⟨Or.inl rfl, List.forall_mem_cons.mpr ⟨Or.inl rfl, List.forall_mem_cons.mpr ⟨Or.inr ⟨by decide, _, kw_L_57, ncs36.2.2.1⟩, List.forall_mem_cons.mpr ⟨Or.inl rfl, List.forall_mem_cons.mpr ⟨Or.inl rfl, List.forall_mem_cons.mpr ⟨Or.inl rfl, List.forall_mem_cons.mpr ⟨Or.inl rfl, List.forall_mem_cons.mpr ⟨Or.inl rfl, List.forall_mem_cons.mpr ⟨Or.inl rfl, List.forall_mem_cons.mpr ⟨Or.inr ⟨by decide, _, kw_L_59, ncs36.2.2.2⟩, List.forall_mem_cons.mpr ⟨Or.inl rfl, List.forall_mem_cons.mpr ⟨Or.inl rfl, List.forall_mem_cons.mpr ⟨Or.inl rfl, List.forall_mem_cons.mpr ⟨Or.inl rfl, List.forall_mem_cons.mpr ⟨Or.inl rfl, List.forall_mem_cons.mpr ⟨Or.inl rfl, fun _ h => absurd h List.not_mem_nil⟩⟩⟩⟩⟩⟩⟩⟩⟩⟩⟩⟩⟩⟩⟩⟩⟩⟩⟩) rfl (by decide) kw_L_61 cst_IOOBE (by decide) rfl (Or.inr ⟨rfl, dL_act_95⟩) rfl ?_
    refine K.bipush (q := 99) (v := (-3)) dL_act_97 rfl (by decide) ?_
    exact C.iret rfl rfl rfl rfl (Nat.le_of_ble_eq_true rfl) (Nat.le_of_ble_eq_true rfl) dL_act_99
theorem c7_forget {X : GS} (hN : okI (X.2.1 0)) (a b : Int32) : Ct 6 1 6 yX7_forget (.code yX7_forget cX7_forget 2 (some (.int))) [.ref 0, .int a] (mkH X) (rT (e_X7_forget (X.1 0) a) (some (.int (r_X7_forget (X.1 0) a)))) (mkH (sForget X a)) := by
  have h := s_X7_forget X (X.1 0) a hN
  rw [uB_eta] at h
  exact h
theorem L_act6 {X : GS} (hN : okI (X.2.1 0)) (a b : Int32) : Ct 8 1 6 yL_act (.codeWith yL_act cL_act 5 (some (.int)) [(0, 46, 85, 57), (47, 53, 85, 57), (54, 59, 85, 57), (60, 65, 85, 57), (66, 72, 85, 57), (73, 78, 85, 57), (79, 84, 85, 57), (0, 46, 90, 59), (47, 53, 90, 59), (54, 59, 90, 59), (60, 65, 90, 59), (66, 72, 90, 59), (73, 78, 90, 59), (79, 84, 90, 59), (0, 46, 95, 61), (47, 53, 95, 61), (54, 59, 95, 61), (60, 65, 95, 61), (66, 72, 95, 61), (73, 78, 95, 61), (79, 84, 95, 61)]) [.ref 0, .int 6, .int a, .int b] (mkH X) (.inl (some (.int (aR (e_X7_forget (X.1 0) a) (r_X7_forget (X.1 0) a))))) (mkH (sForget X a)) := by
  refine Ct.ofH (LL := [some (.ref 0), some (.int 6), some (.int a), some (.int b), none]) mkL_act owL_act rfl (Nat.le_of_ble_eq_true rfl) rfl (fun Wk C => ?_)
  have K := C.core
  have hc := c7_forget hN a b
  have he : e_X7_forget (X.1 0) a = "" ∨ e_X7_forget (X.1 0) a = "java/lang/UnsupportedOperationException" ∨ e_X7_forget (X.1 0) a = "java/lang/IllegalArgumentException" ∨ e_X7_forget (X.1 0) a = "java/lang/IndexOutOfBoundsException" := by
    unfold e_X7_forget
    split
    · exact Or.inr (Or.inr (Or.inr rfl))
    · exact Or.inl rfl
  refine K.iload_n (q := 1) dL_act_0 rfl rfl ?_
  refine K.tableOut (tgt := 79) dL_act_1 (by decide) (by decide) ?_
  refine K.aload_n (q := 80) dL_act_79 rfl rfl ?_
  refine K.iload_n (q := 81) dL_act_80 rfl rfl ?_
  generalize e_X7_forget (X.1 0) a = ee at hc he C
  rcases he with rfl | rfl | rfl | rfl
  · rw [aR_0] at C
    refine K.callV (q := 84) mkX7_forget mw_L_54 (ct_ok hc rfl) rfl (by decide) rfl (lt141 (by decide)) rx0 (Nat.le_of_ble_eq_true rfl) (Nat.le_of_ble_eq_true rfl) (Nat.le_of_ble_eq_true rfl) dL_act_81 rfl ?_
    exact C.iret rfl rfl rfl rfl (Nat.le_of_ble_eq_true rfl) (Nat.le_of_ble_eq_true rfl) dL_act_84
  · rw [aR_u] at C
    refine C.catchW (name := "java/lang/UnsupportedOperationException") (j := 4) (hp := 0) (ln := 2) (q := 87) mkX7_forget mw_L_54 (ct_ex hc (by decide)) rfl (by decide) rfl (lt141 (by decide)) rx0 (Nat.le_of_ble_eq_true rfl) (Nat.le_of_ble_eq_true rfl) (Nat.le_of_ble_eq_true rfl) dL_act_81 [⟨0, 46, 85, 57⟩, ⟨47, 53, 85, 57⟩, ⟨54, 59, 85, 57⟩, ⟨60, 65, 85, 57⟩, ⟨66, 72, 85, 57⟩, ⟨73, 78, 85, 57⟩] ⟨79, 84, 85, 57⟩ [⟨0, 46, 90, 59⟩, ⟨47, 53, 90, 59⟩, ⟨54, 59, 90, 59⟩, ⟨60, 65, 90, 59⟩, ⟨66, 72, 90, 59⟩, ⟨73, 78, 90, 59⟩, ⟨79, 84, 90, 59⟩, ⟨0, 46, 95, 61⟩, ⟨47, 53, 95, 61⟩, ⟨54, 59, 95, 61⟩, ⟨60, 65, 95, 61⟩, ⟨66, 72, 95, 61⟩, ⟨73, 78, 95, 61⟩, ⟨79, 84, 95, 61⟩] rfl (List.forall_mem_cons.mpr ⟨Or.inl rfl, List.forall_mem_cons.mpr ⟨Or.inl rfl, List.forall_mem_cons.mpr ⟨Or.inl rfl, List.forall_mem_cons.mpr ⟨Or.inl rfl, List.forall_mem_cons.mpr ⟨Or.inl rfl, List.forall_mem_cons.mpr ⟨Or.inl rfl, fun _ h => absurd h List.not_mem_nil⟩⟩⟩⟩⟩⟩) rfl (by decide) kw_L_57 cst_UOE (by decide) rfl (Or.inr ⟨rfl, dL_act_85⟩) rfl ?_
    refine K.bipush (q := 89) (v := (-2)) dL_act_87 rfl (by decide) ?_
    exact C.iret rfl rfl rfl rfl (Nat.le_of_ble_eq_true rfl) (Nat.le_of_ble_eq_true rfl) dL_act_89
  · rw [aR_a] at C
    refine C.catchW (name := "java/lang/IllegalArgumentException") (j := 4) (hp := 0) (ln := 2) (q := 92) mkX7_forget mw_L_54 (ct_ex hc (by decide)) rfl (by decide) rfl (lt141 (by decide)) rx0 (Nat.le_of_ble_eq_true rfl) (Nat.le_of_ble_eq_true rfl) (Nat.le_of_ble_eq_true rfl) dL_act_81 [⟨0, 46, 85, 57⟩, ⟨47, 53, 85, 57⟩, ⟨54, 59, 85, 57⟩, ⟨60, 65, 85, 57⟩, ⟨66, 72, 85, 57⟩, ⟨73, 78, 85, 57⟩, ⟨79, 84, 85, 57⟩, ⟨0, 46, 90, 59⟩, ⟨47, 53, 90, 59⟩, ⟨54, 59, 90, 59⟩, ⟨60, 65, 90, 59⟩, ⟨66, 72, 90, 59⟩, ⟨73, 78, 90, 59⟩] ⟨79, 84, 90, 59⟩ [⟨0, 46, 95, 61⟩, ⟨47, 53, 95, 61⟩, ⟨54, 59, 95, 61⟩, ⟨60, 65, 95, 61⟩, ⟨66, 72, 95, 61⟩, ⟨73, 78, 95, 61⟩, ⟨79, 84, 95, 61⟩] rfl (List.forall_mem_cons.mpr ⟨Or.inl rfl, List.forall_mem_cons.mpr ⟨Or.inl rfl, List.forall_mem_cons.mpr ⟨Or.inl rfl, List.forall_mem_cons.mpr ⟨Or.inl rfl, List.forall_mem_cons.mpr ⟨Or.inl rfl, List.forall_mem_cons.mpr ⟨Or.inl rfl, List.forall_mem_cons.mpr ⟨Or.inr ⟨by decide, _, kw_L_57, ncs36.2.1⟩, List.forall_mem_cons.mpr ⟨Or.inl rfl, List.forall_mem_cons.mpr ⟨Or.inl rfl, List.forall_mem_cons.mpr ⟨Or.inl rfl, List.forall_mem_cons.mpr ⟨Or.inl rfl, List.forall_mem_cons.mpr ⟨Or.inl rfl, List.forall_mem_cons.mpr ⟨Or.inl rfl, fun _ h => absurd h List.not_mem_nil⟩⟩⟩⟩⟩⟩⟩⟩⟩⟩⟩⟩⟩) rfl (by decide) kw_L_59 cst_IAE (by decide) rfl (Or.inr ⟨rfl, dL_act_90⟩) rfl ?_
    refine K.bipush (q := 94) (v := (-3)) dL_act_92 rfl (by decide) ?_
    exact C.iret rfl rfl rfl rfl (Nat.le_of_ble_eq_true rfl) (Nat.le_of_ble_eq_true rfl) dL_act_94
  · rw [aR_i] at C
    refine C.catchW (name := "java/lang/IndexOutOfBoundsException") (j := 4) (hp := 0) (ln := 2) (q := 97) mkX7_forget mw_L_54 (ct_ex hc (by decide)) rfl (by decide) rfl (lt141 (by decide)) rx0 (Nat.le_of_ble_eq_true rfl) (Nat.le_of_ble_eq_true rfl) (Nat.le_of_ble_eq_true rfl) dL_act_81 [⟨0, 46, 85, 57⟩, ⟨47, 53, 85, 57⟩, ⟨54, 59, 85, 57⟩, ⟨60, 65, 85, 57⟩, ⟨66, 72, 85, 57⟩, ⟨73, 78, 85, 57⟩, ⟨79, 84, 85, 57⟩, ⟨0, 46, 90, 59⟩, ⟨47, 53, 90, 59⟩, ⟨54, 59, 90, 59⟩, ⟨60, 65, 90, 59⟩, ⟨66, 72, 90, 59⟩, ⟨73, 78, 90, 59⟩, ⟨79, 84, 90, 59⟩, ⟨0, 46, 95, 61⟩, ⟨47, 53, 95, 61⟩, ⟨54, 59, 95, 61⟩, ⟨60, 65, 95, 61⟩, ⟨66, 72, 95, 61⟩, ⟨73, 78, 95, 61⟩] ⟨79, 84, 95, 61⟩ [] rfl (List.forall_mem_cons.mpr ⟨Or.inl rfl, List.forall_mem_cons.mpr ⟨Or.inl rfl, List.forall_mem_cons.mpr ⟨Or.inl rfl, List.forall_mem_cons.mpr ⟨Or.inl rfl, List.forall_mem_cons.mpr ⟨Or.inl rfl, List.forall_mem_cons.mpr ⟨Or.inl rfl, List.forall_mem_cons.mpr ⟨Or.inr ⟨by decide, _, kw_L_57, ncs36.2.2.1⟩, List.forall_mem_cons.mpr ⟨Or.inl rfl, List.forall_mem_cons.mpr ⟨Or.inl rfl, List.forall_mem_cons.mpr ⟨Or.inl rfl, List.forall_mem_cons.mpr ⟨Or.inl rfl, List.forall_mem_cons.mpr ⟨Or.inl rfl, List.forall_mem_cons.mpr ⟨Or.inl rfl, List.forall_mem_cons.mpr ⟨Or.inr ⟨by decide, _, kw_L_59, ncs36.2.2.2⟩, List.forall_mem_cons.mpr ⟨Or.inl rfl, List.forall_mem_cons.mpr ⟨Or.inl rfl, List.forall_mem_cons.mpr ⟨Or.inl rfl, List.forall_mem_cons.mpr ⟨Or.inl rfl, List.forall_mem_cons.mpr ⟨Or.inl rfl, List.forall_mem_cons.mpr ⟨Or.inl rfl, fun _ h => absurd h List.not_mem_nil⟩⟩⟩⟩⟩⟩⟩⟩⟩⟩⟩⟩⟩⟩⟩⟩⟩⟩⟩⟩) rfl (by decide) kw_L_61 cst_IOOBE (by decide) rfl (Or.inr ⟨rfl, dL_act_95⟩) rfl ?_
    refine K.bipush (q := 99) (v := (-3)) dL_act_97 rfl (by decide) ?_
    exact C.iret rfl rfl rfl rfl (Nat.le_of_ble_eq_true rfl) (Nat.le_of_ble_eq_true rfl) dL_act_99
theorem L_act {X : GS} (hN : okI (X.2.1 0)) (w a b : Int32) (hw : w = 0 ∨ w = 1 ∨ w = 2 ∨ w = 3 ∨ w = 4 ∨ w = 5 ∨ w = 6) : Ct 8 1 6 yL_act (.codeWith yL_act cL_act 5 (some (.int)) [(0, 46, 85, 57), (47, 53, 85, 57), (54, 59, 85, 57), (60, 65, 85, 57), (66, 72, 85, 57), (73, 78, 85, 57), (79, 84, 85, 57), (0, 46, 90, 59), (47, 53, 90, 59), (54, 59, 90, 59), (60, 65, 90, 59), (66, 72, 90, 59), (73, 78, 90, 59), (79, 84, 90, 59), (0, 46, 95, 61), (47, 53, 95, 61), (54, 59, 95, 61), (60, 65, 95, 61), (66, 72, 95, 61), (73, 78, 95, 61), (79, 84, 95, 61)]) [.ref 0, .int w, .int a, .int b] (mkH X) (.inl (some (.int (pAct X w a b).1))) (mkH (pAct X w a b).2) := by
  rcases hw with rfl | rfl | rfl | rfl | rfl | rfl | rfl
  · exact L_act0 hN a b
  · exact L_act1 hN a b
  · exact L_act2 hN a b
  · exact L_act3 hN a b
  · exact L_act4 hN a b
  · exact L_act5 hN a b
  · exact L_act6 hN a b
abbrev tabA : List (Nat × Nat × Nat × Nat) := [(0, 46, 85, 57), (47, 53, 85, 57), (54, 59, 85, 57), (60, 65, 85, 57), (66, 72, 85, 57), (73, 78, 85, 57), (79, 84, 85, 57), (0, 46, 90, 59), (47, 53, 90, 59), (54, 59, 90, 59), (60, 65, 90, 59), (66, 72, 90, 59), (73, 78, 90, 59), (79, 84, 90, 59), (0, 46, 95, 61), (47, 53, 95, 61), (54, 59, 95, 61), (60, 65, 95, 61), (66, 72, 95, 61), (73, 78, 95, 61), (79, 84, 95, 61)]
theorem c7_run {X : GS} (hN : okI (X.2.1 0)) (hq : (m_X7_run X (X.1 0)).isSome = true) : Ct 8 1 6 yX7_run (.code yX7_run cX7_run 3 (some (.int))) [.ref 0] (mkH X) (rT (rnQ X).1 (some (.int (rnQ X).2.1))) (mkH (rnS X)) := by
  have hs : m_X7_run X (X.1 0) = some (rnQ X) := fu_some (by intro h; rw [h] at hq; cases hq)
  show Ct 8 1 6 yX7_run (.code yX7_run cX7_run 3 (some (.int))) [.ref 0] (mkH X) (rT (rnQ X).1 (some (.int (rnQ X).2.1))) (mkH (uB (rnQ X).2.2.2 0 (rnQ X).2.2.1))
  generalize rnQ X = q at hs ⊢
  obtain ⟨eo, vo, bo, Xo⟩ := q
  have h := s_X7_run X (X.1 0) hN hs
  rw [uB_eta] at h
  exact h
theorem L_runs_a {X : GS} (hN : okI (X.2.1 0)) (hq : (m_X7_run X (X.1 0)).isSome = true) (he : (rnQ X).1 = "java/lang/IllegalArgumentException") : Ct 9 1 6 yL_runs (.codeWith yL_runs cL_runs 2 (some (.int)) [(0, 4, 5, 59), (0, 4, 8, 57)]) [.ref 0] (mkH X) (.inl (some (.int (-1)))) (mkH (rnS X)) := by
  refine Ct.ofH (LL := [some (.ref 0), none]) mkL_runs owL_runs rfl (Nat.le_of_ble_eq_true rfl) rfl (fun Wk C => ?_)
  have K := C.core
  have hc := c7_run hN hq
  rw [he] at hc
  refine K.aload_n (q := 1) dL_runs_0 rfl rfl ?_
  refine C.catchW (name := "java/lang/IllegalArgumentException") (j := 1) (hp := 0) (ln := 1) (q := 6) mkX7_run mw_L_164 (ct_ex hc (by decide)) rfl (by decide) rfl (lt141 (by decide)) rx0 (Nat.le_of_ble_eq_true rfl) (Nat.le_of_ble_eq_true rfl) (Nat.le_of_ble_eq_true rfl) dL_runs_1 [] ⟨0, 4, 5, 59⟩ [⟨0, 4, 8, 57⟩] rfl (fun _ h => absurd h List.not_mem_nil) rfl (by decide) kw_L_59 cst_IAE (by decide) rfl (Or.inl ⟨1, rfl, rfl, dL_runs_5⟩) rfl ?_
  refine K.iconst (q := 7) (v := (-1)) dL_runs_6 rfl (by decide) ?_
  exact C.iret rfl rfl rfl rfl (Nat.le_of_ble_eq_true rfl) (Nat.le_of_ble_eq_true rfl) dL_runs_7
theorem L_runs_u {X : GS} (hN : okI (X.2.1 0)) (hq : (m_X7_run X (X.1 0)).isSome = true) (he : (rnQ X).1 = "java/lang/UnsupportedOperationException") : Ct 9 1 6 yL_runs (.codeWith yL_runs cL_runs 2 (some (.int)) [(0, 4, 5, 59), (0, 4, 8, 57)]) [.ref 0] (mkH X) (.inl (some (.int (-2)))) (mkH (rnS X)) := by
  refine Ct.ofH (LL := [some (.ref 0), none]) mkL_runs owL_runs rfl (Nat.le_of_ble_eq_true rfl) rfl (fun Wk C => ?_)
  have K := C.core
  have hc := c7_run hN hq
  rw [he] at hc
  refine K.aload_n (q := 1) dL_runs_0 rfl rfl ?_
  refine C.catchW (name := "java/lang/UnsupportedOperationException") (j := 1) (hp := 0) (ln := 1) (q := 9) mkX7_run mw_L_164 (ct_ex hc (by decide)) rfl (by decide) rfl (lt141 (by decide)) rx0 (Nat.le_of_ble_eq_true rfl) (Nat.le_of_ble_eq_true rfl) (Nat.le_of_ble_eq_true rfl) dL_runs_1 [⟨0, 4, 5, 59⟩] ⟨0, 4, 8, 57⟩ [] rfl (List.forall_mem_cons.mpr ⟨Or.inr ⟨by decide, _, kw_L_59, ncs36.1⟩, fun _ h => absurd h List.not_mem_nil⟩) rfl (by decide) kw_L_57 cst_UOE (by decide) rfl (Or.inl ⟨1, rfl, rfl, dL_runs_8⟩) rfl ?_
  refine K.bipush (q := 11) (v := (-2)) dL_runs_9 rfl (by decide) ?_
  exact C.iret rfl rfl rfl rfl (Nat.le_of_ble_eq_true rfl) (Nat.le_of_ble_eq_true rfl) dL_runs_11
abbrev tabR : List (Nat × Nat × Nat × Nat) := [(0, 4, 5, 59), (0, 4, 8, 57)]
section
variable {p : Program} {l : Launch} {e : Env} {R : Room} {s : State} {m : MethodId} {args : Array Value} {below : List Frame} {meth : Method} {c : Code} {Q : State → Prop} {g : Nat × Nat} {ca : Nat → ClassId} {D : va_G} {sL : State} {own : String} {cc : ByteArray} {nL d kc ks : Nat}
theorem Cx.runSX (X : Cx p l R s m meth c g ca D sL own cc nL d kc ks) {y : MethodName} {cb : ByteArray} {mL na idx d' mc ms k n pc : Nat} {rt : Option FieldType} {tab : List (Nat × Nat × Nat × Nat)} {av S : List Value} {H H' : aH} {r : rR} {Hr : Heap} {locs : List Loc} {ls : Array Slot} {L : List (Option Value)}
    (hm : MOk y na) (ho : wok (.codeWith y cb mL rt tab)) (hv : wok (.static y)) (hw : wok (.methodLink own idx y)) (hc : Ct d' mc ms y (.codeWith y cb mL rt tab) av H r H') (hd : d' + 1 ≤ d) (hmL : mL ≤ 45) (hna : av.length = na)
    (hsum : (S.map fun v => v.category).sum ≤ 8) (hk : k + mc ≤ kc) (hn : n + ms ≤ ks) (dg : decode cc pc = .ok (.invokestatic idx, 3)) (hN : wld g ca D H Hr) (hS : va_S (aD g) s.heap Hr locs) (hl : lH g ls nL L) :
    vx_Run p l e R s m args below meth c Hr locs k n mc ms (F0 m pc ls ((av.reverse ++ S).map (rv g))) (S.map (rv g)) (qR g ca D r H' (av.map (rv g)).toArray) (qX g ca D r H') (aD g) := by
  exact vx_runSX (hh := tab) (bytes := cb) (maxL := mL) (ret := rt) (n := na) (As := av.map (rv g)) (rest := S.map (rv g)) (own := own) (Ts := []) ⟨X.exec, X.code, X.max, X.ow, fun _ h => nomatch h⟩ (hc l sL g D ca X.gl)
    ⟨⟨rfl, rfl, (X.room hd hmL (mc := mc) (ms := ms)).1, (X.room hd hmL (mc := mc) (ms := ms)).2, wok_keep ho.2 (X.word ho args), List.mem_cons_self⟩, X.word ho args, X.word hm.1 args, hm.2.1, fun sig h => by
      have h2 := hm.2.2.2
      rw [h] at h2
      exact (Option.some.inj h2).symm, X.word hw args, X.word hv args⟩ (X.preS hN hS) rfl (by rw [List.length_map]; exact hna) hl.1
    (by show (av.reverse ++ S).map (rv g) = _; rw [List.map_append, List.map_reverse]) (lv_room (by rw [sum_rv]; exact hsum)) dg ⟨Nat.le_trans hk X.cells, Nat.le_trans hn X.slots⟩
end
theorem Core.callSH {own : String} {cc : ByteArray} {nL d kc ks : Nat} {Wk : tW} {k n pc q : Nat} {L : List (Option Value)} {S St : List Value} {H H' : aH} {y : MethodName} {cb : ByteArray} {mL na idx d' mc ms : Nat} {rt : Option FieldType} {tab : List (Nat × Nat × Nat × Nat)} {av : List Value} {w : Value}
    (C : Core own cc nL d kc ks Wk) (hm : MOk y na) (ho : wok (.codeWith y cb mL rt tab)) (hv : wok (.static y)) (hmL : mL ≤ 45) (hw : wok (.methodLink own idx y)) (hc : Ct d' mc ms y (.codeWith y cb mL rt tab) av H (.inl (some w)) H') (hst : St = av.reverse ++ S) (hd : d' + 1 ≤ d) (hna : av.length = na) (hsum : (S.map fun v => v.category).sum ≤ 8) (hk : k + mc ≤ kc) (hn : n + ms ≤ ks) (dg : decode cc pc = .ok (.invokestatic idx, 3)) (hq : pc + 3 = q)
    (kk : Wk (k + mc) (n + ms) q L (w :: S) H') : Wk k n pc L St H := by
  obtain ⟨p, l, e, R, s, m, args, below, meth, c, Q, g, ca, D, sL, X, rfl⟩ := C
  subst hq; subst hst
  intro Hr locs ls hN hS hl
  exact run_done (X.runSX hm ho hv hw hc hd hmL hna hsum hk hn dg hN hS hl) hS (fun H1 locs1 hw1 hS1 => kk H1 locs1 ls hw1 hS1 hl)
