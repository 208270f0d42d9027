/-! ===== the law's helpers ===== -/
section
variable {p : Program} {l : Launch} {e : Env} {R : Room} {s : State} {m : MethodId} {args : Array Value} {below : List Frame} {meth : Method} {c : Code} {Q : State → Prop} {g : Nat × Nat} {ca : Nat → ClassId} {D : va_G} {sL : State} {own : String} {cc : ByteArray} {nL d kc ks : Nat}
theorem Cx.runSX (X : Cx p l R s m meth c g ca D sL own cc nL d kc ks) {y : MethodName} {cb : ByteArray} {mL na idx d' mc ms k n pc : Nat} {rt : Option FieldType} {tab : List (Nat × Nat × Nat × Nat)} {av S : List Value} {H H' : aH} {r : rR} {Hr : Heap} {locs : List Loc} {ls : Array Slot} {L : List (Option Value)}
    (hm : MOk y na) (ho : wok (.codeWith y cb mL rt tab)) (hv : wok (.static y)) (hw : wok (.methodLink own idx y)) (hc : Ct d' mc ms y (.codeWith y cb mL rt tab) av H r H') (hd : d' + 1 ≤ d) (hmL : mL ≤ 45) (hna : av.length = na)
    (hsum : (S.map fun v => v.category).sum ≤ 8) (hk : k + mc ≤ kc) (hn : n + ms ≤ ks) (dg : decode cc pc = .ok (.invokestatic idx, 3)) (hN : wld g ca D H Hr) (hS : va_S (aD g) s.heap Hr locs) (hl : lH g ls nL L) :
    vx_Run p l e R s m args below meth c Hr locs k n mc ms (F0 m pc ls ((av.reverse ++ S).map (rv g))) (S.map (rv g)) (qR g ca D r H' (av.map (rv g)).toArray) (qX g ca D r H') (aD g) := by
  exact vx_runSX (hh := tab) (bytes := cb) (maxL := mL) (ret := rt) (n := na) (As := av.map (rv g)) (rest := S.map (rv g)) (own := own) (Ts := []) ⟨X.exec, X.code, X.max, X.ow, fun _ h => nomatch h⟩ (hc l sL g D ca X.gl)
    ⟨⟨rfl, rfl, (X.room hd hmL (mc := mc) (ms := ms)).1, (X.room hd hmL (mc := mc) (ms := ms)).2, wok_keep ho.2 (X.word ho args), List.mem_cons_self⟩, X.word ho args, X.word hm.1 args, hm.2.1, fun sig h => by
      have h2 := hm.2.2.2
      rw [h] at h2
      exact (Option.some.inj h2).symm, X.word hw args, X.word hv args⟩ (X.preS hN hS) rfl (by rw [List.length_map]; exact hna) hl.1
    (by show (av.reverse ++ S).map (rv g) = _; rw [List.map_append, List.map_reverse]) (lv_room (by rw [sum_rv]; exact hsum)) dg ⟨Nat.le_trans hk X.cells, Nat.le_trans hn X.slots⟩
end
theorem Core.callSH {own : String} {cc : ByteArray} {nL d kc ks : Nat} {Wk : tW} {k n pc q : Nat} {L : List (Option Value)} {S St : List Value} {H H' : aH} {y : MethodName} {cb : ByteArray} {mL na idx d' mc ms : Nat} {rt : Option FieldType} {tab : List (Nat × Nat × Nat × Nat)} {av : List Value} {w : Value}
    (C : Core own cc nL d kc ks Wk) (hm : MOk y na) (ho : wok (.codeWith y cb mL rt tab)) (hv : wok (.static y)) (hmL : mL ≤ 45) (hw : wok (.methodLink own idx y)) (hc : Ct d' mc ms y (.codeWith y cb mL rt tab) av H (.inl (some w)) H') (hst : St = av.reverse ++ S) (hd : d' + 1 ≤ d) (hna : av.length = na) (hsum : (S.map fun v => v.category).sum ≤ 8) (hk : k + mc ≤ kc) (hn : n + ms ≤ ks) (dg : decode cc pc = .ok (.invokestatic idx, 3)) (hq : pc + 3 = q)
    (kk : Wk (k + mc) (n + ms) q L (w :: S) H') : Wk k n pc L St H := by
  obtain ⟨p, l, e, R, s, m, args, below, meth, c, Q, g, ca, D, sL, X, rfl⟩ := C
  subst hq; subst hst
  intro Hr locs ls hN hS hl
  exact run_done (X.runSX hm ho hv hw hc hd hmL hna hsum hk hn dg hN hS hl) hS (fun H1 locs1 hw1 hS1 => kk H1 locs1 ls hw1 hS1 hl)
theorem cst_IAE : Cond.castable "java/lang/IllegalArgumentException" "java/lang/IllegalArgumentException" ∈ lw_tbl := by decide +kernel
theorem cst_UOE : Cond.castable "java/lang/UnsupportedOperationException" "java/lang/UnsupportedOperationException" ∈ lw_tbl := by decide +kernel
theorem cst_IOOBE : Cond.castable "java/lang/IndexOutOfBoundsException" "java/lang/IndexOutOfBoundsException" ∈ lw_tbl := by decide +kernel
theorem cst_NSE : Cond.castable "java/util/NoSuchElementException" "java/util/NoSuchElementException" ∈ lw_tbl := by decide +kernel
theorem cst_ISE : Cond.castable "java/lang/IllegalStateException" "java/lang/IllegalStateException" ∈ lw_tbl := by decide +kernel
theorem cst_AE : Cond.castable "java/lang/ArithmeticException" "java/lang/ArithmeticException" ∈ lw_tbl := by decide +kernel
theorem ncs_all : ("java/lang/UnsupportedOperationException", "java/lang/IllegalArgumentException") ∈ ncs ∧ ("java/lang/IllegalArgumentException", "java/lang/IndexOutOfBoundsException") ∈ ncs ∧ ("java/lang/UnsupportedOperationException", "java/lang/IndexOutOfBoundsException") ∈ ncs ∧ ("java/lang/IndexOutOfBoundsException", "java/lang/IllegalArgumentException") ∈ ncs ∧ ("java/lang/IllegalArgumentException", "java/util/NoSuchElementException") ∈ ncs ∧ ("java/util/NoSuchElementException", "java/lang/IllegalArgumentException") ∈ ncs := by decide +kernel
theorem L_lend {X Z Z' : GS} {e : String} {r : Int32} {z : Int32} {x0 : Int32} {x1 : Int32} (hc : Ct 7 1 6 yX7_lend (.code yX7_lend cX7_lend 3 (some (.int))) [.ref 0, .int x0, .int x1] (mkH X) (rT e (some (.int r))) (mkH Z)) (he : (e = "" ∧ z = 0 ∧ Z' = uO Z (up Z.2.2.2.1 0 r.toInt64)) ∨ (e = "java/lang/IllegalArgumentException" ∧ z = 1 ∧ Z' = Z) ∨ (e = "java/lang/UnsupportedOperationException" ∧ z = 2 ∧ Z' = Z)) :
    Ct 9 2 12 yL_lend (.codeWith yL_lend cL_lend 5 (some (.int)) [(0, 10, 13, 13), (0, 10, 17, 15)]) [.ref 0, .int x0, .int x1, .ref 139] (mkH X) (.inl (some (.int z))) (mkH Z') := by
  refine Ct.ofH (LL := [some (.ref 0), some (.int x0), some (.int x1), some (.ref 139), none]) mkL_lend owL_lend rfl (Nat.le_of_ble_eq_true rfl) rfl (fun Wk C => ?_)
  have K := C.core
  refine K.aload_n (q := 1) dL_lend_0 rfl rfl ?_
  refine K.iconst (q := 2) (v := 0) dL_lend_1 rfl (by decide) ?_
  refine K.aload_n (q := 3) dL_lend_2 rfl rfl ?_
  refine K.iload_n (q := 4) dL_lend_3 rfl rfl ?_
  refine K.iload_n (q := 5) dL_lend_4 rfl rfl ?_
  rcases he with ⟨rfl, rfl, rfl⟩ | ⟨rfl, rfl, rfl⟩ | ⟨rfl, rfl, rfl⟩
  · refine K.callV (q := 8) mkX7_lend mw_L_7 (ct_ok hc rfl) rfl (by decide) rfl (lt141 (by decide)) rx0 (Nat.le_of_ble_eq_true rfl) (Nat.le_of_ble_eq_true rfl) (Nat.le_of_ble_eq_true rfl) dL_lend_5 rfl ?_
    refine K.i2l (q := 9) dL_lend_8 rfl ?_
    refine K.las (q := 10) (m := 0) rx139 (lt141 (by decide)) rfl rfl (by decide) (by decide) wo139 dL_lend_9 rfl ?_
    refine K.goto (tgt := 21) dL_lend_10 (by decide) ?_
    refine K.iconst (q := 22) (v := 0) dL_lend_21 rfl (by decide) ?_
    exact C.iret rfl rfl rfl rfl (Nat.le_of_ble_eq_true rfl) (Nat.le_of_ble_eq_true rfl) dL_lend_22
  · refine C.catchV (name := "java/lang/IllegalArgumentException") (j := 4) (hp := 0) (ln := 2) (q := 15) mkX7_lend mw_L_7 (ct_ex hc (by decide)) rfl (by decide) rfl (lt141 (by decide)) rx0 (Nat.le_of_ble_eq_true rfl) (Nat.le_of_ble_eq_true rfl) (Nat.le_of_ble_eq_true rfl) dL_lend_5 [] ⟨0, 10, 13, 13⟩ [⟨0, 10, 17, 15⟩] rfl (fun z9 hz9 => absurd hz9 List.not_mem_nil) rfl (by decide) kw_L_13 cst_IAE (by decide) rfl (Or.inr ⟨rfl, dL_lend_13⟩) rfl ?_
    refine K.iconst (q := 16) (v := 1) dL_lend_15 rfl (by decide) ?_
    exact C.iret rfl rfl rfl rfl (Nat.le_of_ble_eq_true rfl) (Nat.le_of_ble_eq_true rfl) dL_lend_16
  · refine C.catchV (name := "java/lang/UnsupportedOperationException") (j := 4) (hp := 0) (ln := 2) (q := 19) mkX7_lend mw_L_7 (ct_ex hc (by decide)) rfl (by decide) rfl (lt141 (by decide)) rx0 (Nat.le_of_ble_eq_true rfl) (Nat.le_of_ble_eq_true rfl) (Nat.le_of_ble_eq_true rfl) dL_lend_5 [⟨0, 10, 13, 13⟩] ⟨0, 10, 17, 15⟩ [] rfl (fun z9 hz9 => by rcases List.mem_singleton.mp hz9 with rfl; exact ⟨by decide, _, kw_L_13, ncs_all.1⟩) rfl (by decide) kw_L_15 cst_UOE (by decide) rfl (Or.inr ⟨rfl, dL_lend_17⟩) rfl ?_
    refine K.iconst (q := 20) (v := 2) dL_lend_19 rfl (by decide) ?_
    exact C.iret rfl rfl rfl rfl (Nat.le_of_ble_eq_true rfl) (Nat.le_of_ble_eq_true rfl) dL_lend_20
theorem L_ask {X Z Z' : GS} {e : String} {r : Int32} {z : Int32} {x0 : Int32} {x1 : Int32} (hc : Ct 7 1 6 yX7_ask (.code yX7_ask cX7_ask 3 (some (.int))) [.ref 0, .int x0, .int x1] (mkH X) (rT e (some (.int r))) (mkH Z)) (he : (e = "" ∧ z = 0 ∧ Z' = uO Z (up Z.2.2.2.1 0 r.toInt64)) ∨ (e = "java/lang/IllegalArgumentException" ∧ z = 1 ∧ Z' = Z) ∨ (e = "java/lang/UnsupportedOperationException" ∧ z = 2 ∧ Z' = Z)) :
    Ct 9 2 12 yL_ask (.codeWith yL_ask cL_ask 5 (some (.int)) [(0, 10, 13, 13), (0, 10, 17, 15)]) [.ref 0, .int x0, .int x1, .ref 139] (mkH X) (.inl (some (.int z))) (mkH Z') := by
  refine Ct.ofH (LL := [some (.ref 0), some (.int x0), some (.int x1), some (.ref 139), none]) mkL_ask owL_ask rfl (Nat.le_of_ble_eq_true rfl) rfl (fun Wk C => ?_)
  have K := C.core
  refine K.aload_n (q := 1) dL_ask_0 rfl rfl ?_
  refine K.iconst (q := 2) (v := 0) dL_ask_1 rfl (by decide) ?_
  refine K.aload_n (q := 3) dL_ask_2 rfl rfl ?_
  refine K.iload_n (q := 4) dL_ask_3 rfl rfl ?_
  refine K.iload_n (q := 5) dL_ask_4 rfl rfl ?_
  rcases he with ⟨rfl, rfl, rfl⟩ | ⟨rfl, rfl, rfl⟩ | ⟨rfl, rfl, rfl⟩
  · refine K.callV (q := 8) mkX7_ask mw_L_17 (ct_ok hc rfl) rfl (by decide) rfl (lt141 (by decide)) rx0 (Nat.le_of_ble_eq_true rfl) (Nat.le_of_ble_eq_true rfl) (Nat.le_of_ble_eq_true rfl) dL_ask_5 rfl ?_
    refine K.i2l (q := 9) dL_ask_8 rfl ?_
    refine K.las (q := 10) (m := 0) rx139 (lt141 (by decide)) rfl rfl (by decide) (by decide) wo139 dL_ask_9 rfl ?_
    refine K.goto (tgt := 21) dL_ask_10 (by decide) ?_
    refine K.iconst (q := 22) (v := 0) dL_ask_21 rfl (by decide) ?_
    exact C.iret rfl rfl rfl rfl (Nat.le_of_ble_eq_true rfl) (Nat.le_of_ble_eq_true rfl) dL_ask_22
  · refine C.catchV (name := "java/lang/IllegalArgumentException") (j := 4) (hp := 0) (ln := 2) (q := 15) mkX7_ask mw_L_17 (ct_ex hc (by decide)) rfl (by decide) rfl (lt141 (by decide)) rx0 (Nat.le_of_ble_eq_true rfl) (Nat.le_of_ble_eq_true rfl) (Nat.le_of_ble_eq_true rfl) dL_ask_5 [] ⟨0, 10, 13, 13⟩ [⟨0, 10, 17, 15⟩] rfl (fun z9 hz9 => absurd hz9 List.not_mem_nil) rfl (by decide) kw_L_13 cst_IAE (by decide) rfl (Or.inr ⟨rfl, dL_ask_13⟩) rfl ?_
    refine K.iconst (q := 16) (v := 1) dL_ask_15 rfl (by decide) ?_
    exact C.iret rfl rfl rfl rfl (Nat.le_of_ble_eq_true rfl) (Nat.le_of_ble_eq_true rfl) dL_ask_16
  · refine C.catchV (name := "java/lang/UnsupportedOperationException") (j := 4) (hp := 0) (ln := 2) (q := 19) mkX7_ask mw_L_17 (ct_ex hc (by decide)) rfl (by decide) rfl (lt141 (by decide)) rx0 (Nat.le_of_ble_eq_true rfl) (Nat.le_of_ble_eq_true rfl) (Nat.le_of_ble_eq_true rfl) dL_ask_5 [⟨0, 10, 13, 13⟩] ⟨0, 10, 17, 15⟩ [] rfl (fun z9 hz9 => by rcases List.mem_singleton.mp hz9 with rfl; exact ⟨by decide, _, kw_L_13, ncs_all.1⟩) rfl (by decide) kw_L_15 cst_UOE (by decide) rfl (Or.inr ⟨rfl, dL_ask_17⟩) rfl ?_
    refine K.iconst (q := 20) (v := 2) dL_ask_19 rfl (by decide) ?_
    exact C.iret rfl rfl rfl rfl (Nat.le_of_ble_eq_true rfl) (Nat.le_of_ble_eq_true rfl) dL_ask_20
theorem L_give {X Z Z' : GS} {e : String} {r : Int32} {z : Int32} {x0 : Int32} (hc : Ct 7 1 6 yX7_give (.code yX7_give cX7_give 2 (some (.int))) [.ref 0, .int x0] (mkH X) (rT e (some (.int r))) (mkH Z)) (he : (e = "" ∧ z = 0 ∧ Z' = uO Z (up Z.2.2.2.1 0 r.toInt64)) ∨ (e = "java/lang/IndexOutOfBoundsException" ∧ z = 1 ∧ Z' = Z)) :
    Ct 9 2 12 yL_give (.codeWith yL_give cL_give 4 (some (.int)) [(0, 9, 12, 24)]) [.ref 0, .int x0, .ref 139] (mkH X) (.inl (some (.int z))) (mkH Z') := by
  refine Ct.ofH (LL := [some (.ref 0), some (.int x0), some (.ref 139), none]) mkL_give owL_give rfl (Nat.le_of_ble_eq_true rfl) rfl (fun Wk C => ?_)
  have K := C.core
  refine K.aload_n (q := 1) dL_give_0 rfl rfl ?_
  refine K.iconst (q := 2) (v := 0) dL_give_1 rfl (by decide) ?_
  refine K.aload_n (q := 3) dL_give_2 rfl rfl ?_
  refine K.iload_n (q := 4) dL_give_3 rfl rfl ?_
  rcases he with ⟨rfl, rfl, rfl⟩ | ⟨rfl, rfl, rfl⟩
  · refine K.callV (q := 7) mkX7_give mw_L_20 (ct_ok hc rfl) rfl (by decide) rfl (lt141 (by decide)) rx0 (Nat.le_of_ble_eq_true rfl) (Nat.le_of_ble_eq_true rfl) (Nat.le_of_ble_eq_true rfl) dL_give_4 rfl ?_
    refine K.i2l (q := 8) dL_give_7 rfl ?_
    refine K.las (q := 9) (m := 0) rx139 (lt141 (by decide)) rfl rfl (by decide) (by decide) wo139 dL_give_8 rfl ?_
    refine K.goto (tgt := 15) dL_give_9 (by decide) ?_
    refine K.iconst (q := 16) (v := 0) dL_give_15 rfl (by decide) ?_
    exact C.iret rfl rfl rfl rfl (Nat.le_of_ble_eq_true rfl) (Nat.le_of_ble_eq_true rfl) dL_give_16
  · refine C.catchV (name := "java/lang/IndexOutOfBoundsException") (j := 3) (hp := 0) (ln := 1) (q := 13) mkX7_give mw_L_20 (ct_ex hc (by decide)) rfl (by decide) rfl (lt141 (by decide)) rx0 (Nat.le_of_ble_eq_true rfl) (Nat.le_of_ble_eq_true rfl) (Nat.le_of_ble_eq_true rfl) dL_give_4 [] ⟨0, 9, 12, 24⟩ [] rfl (fun z9 hz9 => absurd hz9 List.not_mem_nil) rfl (by decide) kw_L_24 cst_IOOBE (by decide) rfl (Or.inl ⟨3, rfl, rfl, dL_give_12⟩) rfl ?_
    refine K.iconst (q := 14) (v := 1) dL_give_13 rfl (by decide) ?_
    exact C.iret rfl rfl rfl rfl (Nat.le_of_ble_eq_true rfl) (Nat.le_of_ble_eq_true rfl) dL_give_14
theorem L_giveAll {X Z Z' : GS} {e : String} {r : Int32} {z : Int32} {x0 : Int32} (hc : Ct 7 1 6 yX7_giveAll (.code yX7_giveAll cX7_giveAll 2 (some (.int))) [.ref 0, .int x0] (mkH X) (rT e (some (.int r))) (mkH Z)) (he : (e = "" ∧ z = 0 ∧ Z' = uO Z (up Z.2.2.2.1 0 r.toInt64)) ∨ (e = "java/lang/IllegalArgumentException" ∧ z = 1 ∧ Z' = Z) ∨ (e = "java/lang/UnsupportedOperationException" ∧ z = 2 ∧ Z' = Z)) :
    Ct 9 2 12 yL_giveAll (.codeWith yL_giveAll cL_giveAll 4 (some (.int)) [(0, 9, 12, 13), (0, 9, 15, 15)]) [.ref 0, .int x0, .ref 139] (mkH X) (.inl (some (.int z))) (mkH Z') := by
  refine Ct.ofH (LL := [some (.ref 0), some (.int x0), some (.ref 139), none]) mkL_giveAll owL_giveAll rfl (Nat.le_of_ble_eq_true rfl) rfl (fun Wk C => ?_)
  have K := C.core
  refine K.aload_n (q := 1) dL_giveAll_0 rfl rfl ?_
  refine K.iconst (q := 2) (v := 0) dL_giveAll_1 rfl (by decide) ?_
  refine K.aload_n (q := 3) dL_giveAll_2 rfl rfl ?_
  refine K.iload_n (q := 4) dL_giveAll_3 rfl rfl ?_
  rcases he with ⟨rfl, rfl, rfl⟩ | ⟨rfl, rfl, rfl⟩ | ⟨rfl, rfl, rfl⟩
  · refine K.callV (q := 7) mkX7_giveAll mw_L_26 (ct_ok hc rfl) rfl (by decide) rfl (lt141 (by decide)) rx0 (Nat.le_of_ble_eq_true rfl) (Nat.le_of_ble_eq_true rfl) (Nat.le_of_ble_eq_true rfl) dL_giveAll_4 rfl ?_
    refine K.i2l (q := 8) dL_giveAll_7 rfl ?_
    refine K.las (q := 9) (m := 0) rx139 (lt141 (by decide)) rfl rfl (by decide) (by decide) wo139 dL_giveAll_8 rfl ?_
    refine K.goto (tgt := 18) dL_giveAll_9 (by decide) ?_
    refine K.iconst (q := 19) (v := 0) dL_giveAll_18 rfl (by decide) ?_
    exact C.iret rfl rfl rfl rfl (Nat.le_of_ble_eq_true rfl) (Nat.le_of_ble_eq_true rfl) dL_giveAll_19
  · refine C.catchV (name := "java/lang/IllegalArgumentException") (j := 3) (hp := 0) (ln := 1) (q := 13) mkX7_giveAll mw_L_26 (ct_ex hc (by decide)) rfl (by decide) rfl (lt141 (by decide)) rx0 (Nat.le_of_ble_eq_true rfl) (Nat.le_of_ble_eq_true rfl) (Nat.le_of_ble_eq_true rfl) dL_giveAll_4 [] ⟨0, 9, 12, 13⟩ [⟨0, 9, 15, 15⟩] rfl (fun z9 hz9 => absurd hz9 List.not_mem_nil) rfl (by decide) kw_L_13 cst_IAE (by decide) rfl (Or.inl ⟨3, rfl, rfl, dL_giveAll_12⟩) rfl ?_
    refine K.iconst (q := 14) (v := 1) dL_giveAll_13 rfl (by decide) ?_
    exact C.iret rfl rfl rfl rfl (Nat.le_of_ble_eq_true rfl) (Nat.le_of_ble_eq_true rfl) dL_giveAll_14
  · refine C.catchV (name := "java/lang/UnsupportedOperationException") (j := 3) (hp := 0) (ln := 1) (q := 16) mkX7_giveAll mw_L_26 (ct_ex hc (by decide)) rfl (by decide) rfl (lt141 (by decide)) rx0 (Nat.le_of_ble_eq_true rfl) (Nat.le_of_ble_eq_true rfl) (Nat.le_of_ble_eq_true rfl) dL_giveAll_4 [⟨0, 9, 12, 13⟩] ⟨0, 9, 15, 15⟩ [] rfl (fun z9 hz9 => by rcases List.mem_singleton.mp hz9 with rfl; exact ⟨by decide, _, kw_L_13, ncs_all.1⟩) rfl (by decide) kw_L_15 cst_UOE (by decide) rfl (Or.inl ⟨3, rfl, rfl, dL_giveAll_15⟩) rfl ?_
    refine K.iconst (q := 17) (v := 2) dL_giveAll_16 rfl (by decide) ?_
    exact C.iret rfl rfl rfl rfl (Nat.le_of_ble_eq_true rfl) (Nat.le_of_ble_eq_true rfl) dL_giveAll_17
theorem L_resize {X Z Z' : GS} {e : String} {r : Int32} {z : Int32} {x0 : Int32} {x1 : Int32} (hc : Ct 7 1 6 yX7_resize (.code yX7_resize cX7_resize 3 (some (.int))) [.ref 0, .int x0, .int x1] (mkH X) (rT e (some (.int r))) (mkH Z)) (he : (e = "" ∧ z = 0 ∧ Z' = uO Z (up Z.2.2.2.1 0 r.toInt64)) ∨ (e = "java/lang/IndexOutOfBoundsException" ∧ z = 1 ∧ Z' = Z) ∨ (e = "java/lang/IllegalArgumentException" ∧ z = 2 ∧ Z' = Z) ∨ (e = "java/lang/UnsupportedOperationException" ∧ z = 3 ∧ Z' = Z)) :
    Ct 9 2 12 yL_resize (.codeWith yL_resize cL_resize 5 (some (.int)) [(0, 10, 13, 24), (0, 10, 17, 13), (0, 10, 21, 15)]) [.ref 0, .int x0, .int x1, .ref 139] (mkH X) (.inl (some (.int z))) (mkH Z') := by
  refine Ct.ofH (LL := [some (.ref 0), some (.int x0), some (.int x1), some (.ref 139), none]) mkL_resize owL_resize rfl (Nat.le_of_ble_eq_true rfl) rfl (fun Wk C => ?_)
  have K := C.core
  refine K.aload_n (q := 1) dL_resize_0 rfl rfl ?_
  refine K.iconst (q := 2) (v := 0) dL_resize_1 rfl (by decide) ?_
  refine K.aload_n (q := 3) dL_resize_2 rfl rfl ?_
  refine K.iload_n (q := 4) dL_resize_3 rfl rfl ?_
  refine K.iload_n (q := 5) dL_resize_4 rfl rfl ?_
  rcases he with ⟨rfl, rfl, rfl⟩ | ⟨rfl, rfl, rfl⟩ | ⟨rfl, rfl, rfl⟩ | ⟨rfl, rfl, rfl⟩
  · refine K.callV (q := 8) mkX7_resize mw_L_29 (ct_ok hc rfl) rfl (by decide) rfl (lt141 (by decide)) rx0 (Nat.le_of_ble_eq_true rfl) (Nat.le_of_ble_eq_true rfl) (Nat.le_of_ble_eq_true rfl) dL_resize_5 rfl ?_
    refine K.i2l (q := 9) dL_resize_8 rfl ?_
    refine K.las (q := 10) (m := 0) rx139 (lt141 (by decide)) rfl rfl (by decide) (by decide) wo139 dL_resize_9 rfl ?_
    refine K.goto (tgt := 25) dL_resize_10 (by decide) ?_
    refine K.iconst (q := 26) (v := 0) dL_resize_25 rfl (by decide) ?_
    exact C.iret rfl rfl rfl rfl (Nat.le_of_ble_eq_true rfl) (Nat.le_of_ble_eq_true rfl) dL_resize_26
  · refine C.catchV (name := "java/lang/IndexOutOfBoundsException") (j := 4) (hp := 0) (ln := 2) (q := 15) mkX7_resize mw_L_29 (ct_ex hc (by decide)) rfl (by decide) rfl (lt141 (by decide)) rx0 (Nat.le_of_ble_eq_true rfl) (Nat.le_of_ble_eq_true rfl) (Nat.le_of_ble_eq_true rfl) dL_resize_5 [] ⟨0, 10, 13, 24⟩ [⟨0, 10, 17, 13⟩, ⟨0, 10, 21, 15⟩] rfl (fun z9 hz9 => absurd hz9 List.not_mem_nil) rfl (by decide) kw_L_24 cst_IOOBE (by decide) rfl (Or.inr ⟨rfl, dL_resize_13⟩) rfl ?_
    refine K.iconst (q := 16) (v := 1) dL_resize_15 rfl (by decide) ?_
    exact C.iret rfl rfl rfl rfl (Nat.le_of_ble_eq_true rfl) (Nat.le_of_ble_eq_true rfl) dL_resize_16
  · refine C.catchV (name := "java/lang/IllegalArgumentException") (j := 4) (hp := 0) (ln := 2) (q := 19) mkX7_resize mw_L_29 (ct_ex hc (by decide)) rfl (by decide) rfl (lt141 (by decide)) rx0 (Nat.le_of_ble_eq_true rfl) (Nat.le_of_ble_eq_true rfl) (Nat.le_of_ble_eq_true rfl) dL_resize_5 [⟨0, 10, 13, 24⟩] ⟨0, 10, 17, 13⟩ [⟨0, 10, 21, 15⟩] rfl (fun z9 hz9 => by rcases List.mem_singleton.mp hz9 with rfl; exact ⟨by decide, _, kw_L_24, ncs_all.2.1⟩) rfl (by decide) kw_L_13 cst_IAE (by decide) rfl (Or.inr ⟨rfl, dL_resize_17⟩) rfl ?_
    refine K.iconst (q := 20) (v := 2) dL_resize_19 rfl (by decide) ?_
    exact C.iret rfl rfl rfl rfl (Nat.le_of_ble_eq_true rfl) (Nat.le_of_ble_eq_true rfl) dL_resize_20
  · refine C.catchV (name := "java/lang/UnsupportedOperationException") (j := 4) (hp := 0) (ln := 2) (q := 23) mkX7_resize mw_L_29 (ct_ex hc (by decide)) rfl (by decide) rfl (lt141 (by decide)) rx0 (Nat.le_of_ble_eq_true rfl) (Nat.le_of_ble_eq_true rfl) (Nat.le_of_ble_eq_true rfl) dL_resize_5 [⟨0, 10, 13, 24⟩, ⟨0, 10, 17, 13⟩] ⟨0, 10, 21, 15⟩ [] rfl (fun z9 hz9 => by rcases List.mem_cons.mp hz9 with rfl | hz9; exact ⟨by decide, _, kw_L_24, ncs_all.2.2.1⟩; rcases List.mem_singleton.mp hz9 with rfl; exact ⟨by decide, _, kw_L_13, ncs_all.1⟩) rfl (by decide) kw_L_15 cst_UOE (by decide) rfl (Or.inr ⟨rfl, dL_resize_21⟩) rfl ?_
    refine K.iconst (q := 24) (v := 3) dL_resize_23 rfl (by decide) ?_
    exact C.iret rfl rfl rfl rfl (Nat.le_of_ble_eq_true rfl) (Nat.le_of_ble_eq_true rfl) dL_resize_24
theorem L_way {X Z Z' : GS} {e : String} {r : Int32} {z : Int32} {x0 : Int32} (hc : Ct 7 1 6 yX7_way (.code yX7_way cX7_way 2 (some (.int))) [.ref 0, .int x0] (mkH X) (rT e (some (.int r))) (mkH Z)) (he : (e = "" ∧ z = 0 ∧ Z' = uO Z (up Z.2.2.2.1 0 r.toInt64)) ∨ (e = "java/lang/IllegalArgumentException" ∧ z = 1 ∧ Z' = Z) ∨ (e = "java/lang/UnsupportedOperationException" ∧ z = 2 ∧ Z' = Z)) :
    Ct 9 2 12 yL_way (.codeWith yL_way cL_way 4 (some (.int)) [(0, 9, 12, 13), (0, 9, 15, 15)]) [.ref 0, .int x0, .ref 139] (mkH X) (.inl (some (.int z))) (mkH Z') := by
  refine Ct.ofH (LL := [some (.ref 0), some (.int x0), some (.ref 139), none]) mkL_way owL_way rfl (Nat.le_of_ble_eq_true rfl) rfl (fun Wk C => ?_)
  have K := C.core
  refine K.aload_n (q := 1) dL_way_0 rfl rfl ?_
  refine K.iconst (q := 2) (v := 0) dL_way_1 rfl (by decide) ?_
  refine K.aload_n (q := 3) dL_way_2 rfl rfl ?_
  refine K.iload_n (q := 4) dL_way_3 rfl rfl ?_
  rcases he with ⟨rfl, rfl, rfl⟩ | ⟨rfl, rfl, rfl⟩ | ⟨rfl, rfl, rfl⟩
  · refine K.callV (q := 7) mkX7_way mw_L_32 (ct_ok hc rfl) rfl (by decide) rfl (lt141 (by decide)) rx0 (Nat.le_of_ble_eq_true rfl) (Nat.le_of_ble_eq_true rfl) (Nat.le_of_ble_eq_true rfl) dL_way_4 rfl ?_
    refine K.i2l (q := 8) dL_way_7 rfl ?_
    refine K.las (q := 9) (m := 0) rx139 (lt141 (by decide)) rfl rfl (by decide) (by decide) wo139 dL_way_8 rfl ?_
    refine K.goto (tgt := 18) dL_way_9 (by decide) ?_
    refine K.iconst (q := 19) (v := 0) dL_way_18 rfl (by decide) ?_
    exact C.iret rfl rfl rfl rfl (Nat.le_of_ble_eq_true rfl) (Nat.le_of_ble_eq_true rfl) dL_way_19
  · refine C.catchV (name := "java/lang/IllegalArgumentException") (j := 3) (hp := 0) (ln := 1) (q := 13) mkX7_way mw_L_32 (ct_ex hc (by decide)) rfl (by decide) rfl (lt141 (by decide)) rx0 (Nat.le_of_ble_eq_true rfl) (Nat.le_of_ble_eq_true rfl) (Nat.le_of_ble_eq_true rfl) dL_way_4 [] ⟨0, 9, 12, 13⟩ [⟨0, 9, 15, 15⟩] rfl (fun z9 hz9 => absurd hz9 List.not_mem_nil) rfl (by decide) kw_L_13 cst_IAE (by decide) rfl (Or.inl ⟨3, rfl, rfl, dL_way_12⟩) rfl ?_
    refine K.iconst (q := 14) (v := 1) dL_way_13 rfl (by decide) ?_
    exact C.iret rfl rfl rfl rfl (Nat.le_of_ble_eq_true rfl) (Nat.le_of_ble_eq_true rfl) dL_way_14
  · refine C.catchV (name := "java/lang/UnsupportedOperationException") (j := 3) (hp := 0) (ln := 1) (q := 16) mkX7_way mw_L_32 (ct_ex hc (by decide)) rfl (by decide) rfl (lt141 (by decide)) rx0 (Nat.le_of_ble_eq_true rfl) (Nat.le_of_ble_eq_true rfl) (Nat.le_of_ble_eq_true rfl) dL_way_4 [⟨0, 9, 12, 13⟩] ⟨0, 9, 15, 15⟩ [] rfl (fun z9 hz9 => by rcases List.mem_singleton.mp hz9 with rfl; exact ⟨by decide, _, kw_L_13, ncs_all.1⟩) rfl (by decide) kw_L_15 cst_UOE (by decide) rfl (Or.inl ⟨3, rfl, rfl, dL_way_15⟩) rfl ?_
    refine K.iconst (q := 17) (v := 2) dL_way_16 rfl (by decide) ?_
    exact C.iret rfl rfl rfl rfl (Nat.le_of_ble_eq_true rfl) (Nat.le_of_ble_eq_true rfl) dL_way_17
theorem L_forget {X Z Z' : GS} {e : String} {r : Int32} {z : Int32} {x0 : Int32} (hc : Ct 6 1 6 yX7_forget (.code yX7_forget cX7_forget 2 (some (.int))) [.ref 0, .int x0] (mkH X) (rT e (some (.int r))) (mkH Z)) (he : (e = "" ∧ z = 0 ∧ Z' = uO Z (up Z.2.2.2.1 0 r.toInt64)) ∨ (e = "java/lang/IndexOutOfBoundsException" ∧ z = 1 ∧ Z' = Z)) :
    Ct 9 2 12 yL_forget (.codeWith yL_forget cL_forget 4 (some (.int)) [(0, 9, 12, 24)]) [.ref 0, .int x0, .ref 139] (mkH X) (.inl (some (.int z))) (mkH Z') := by
  refine Ct.ofH (LL := [some (.ref 0), some (.int x0), some (.ref 139), none]) mkL_forget owL_forget rfl (Nat.le_of_ble_eq_true rfl) rfl (fun Wk C => ?_)
  have K := C.core
  refine K.aload_n (q := 1) dL_forget_0 rfl rfl ?_
  refine K.iconst (q := 2) (v := 0) dL_forget_1 rfl (by decide) ?_
  refine K.aload_n (q := 3) dL_forget_2 rfl rfl ?_
  refine K.iload_n (q := 4) dL_forget_3 rfl rfl ?_
  rcases he with ⟨rfl, rfl, rfl⟩ | ⟨rfl, rfl, rfl⟩
  · refine K.callV (q := 7) mkX7_forget mw_L_35 (ct_ok hc rfl) rfl (by decide) rfl (lt141 (by decide)) rx0 (Nat.le_of_ble_eq_true rfl) (Nat.le_of_ble_eq_true rfl) (Nat.le_of_ble_eq_true rfl) dL_forget_4 rfl ?_
    refine K.i2l (q := 8) dL_forget_7 rfl ?_
    refine K.las (q := 9) (m := 0) rx139 (lt141 (by decide)) rfl rfl (by decide) (by decide) wo139 dL_forget_8 rfl ?_
    refine K.goto (tgt := 15) dL_forget_9 (by decide) ?_
    refine K.iconst (q := 16) (v := 0) dL_forget_15 rfl (by decide) ?_
    exact C.iret rfl rfl rfl rfl (Nat.le_of_ble_eq_true rfl) (Nat.le_of_ble_eq_true rfl) dL_forget_16
  · refine C.catchV (name := "java/lang/IndexOutOfBoundsException") (j := 3) (hp := 0) (ln := 1) (q := 13) mkX7_forget mw_L_35 (ct_ex hc (by decide)) rfl (by decide) rfl (lt141 (by decide)) rx0 (Nat.le_of_ble_eq_true rfl) (Nat.le_of_ble_eq_true rfl) (Nat.le_of_ble_eq_true rfl) dL_forget_4 [] ⟨0, 9, 12, 24⟩ [] rfl (fun z9 hz9 => absurd hz9 List.not_mem_nil) rfl (by decide) kw_L_24 cst_IOOBE (by decide) rfl (Or.inl ⟨3, rfl, rfl, dL_forget_12⟩) rfl ?_
    refine K.iconst (q := 14) (v := 1) dL_forget_13 rfl (by decide) ?_
    exact C.iret rfl rfl rfl rfl (Nat.le_of_ble_eq_true rfl) (Nat.le_of_ble_eq_true rfl) dL_forget_14
theorem L_loanOf {X Z Z' : GS} {e : String} {r : Int32} {z : Int32} {x0 : Int32} {x1 : Int32} (hc : Ct 6 1 6 yX7_loanOf (.code yX7_loanOf cX7_loanOf 4 (some (.int))) [.ref 0, .int x0, .int x1] (mkH X) (rT e (some (.int r))) (mkH Z)) (he : (e = "" ∧ z = 0 ∧ Z' = uO Z (up Z.2.2.2.1 0 r.toInt64)) ∨ (e = "java/lang/IndexOutOfBoundsException" ∧ z = 1 ∧ Z' = Z) ∨ (e = "java/lang/IllegalArgumentException" ∧ z = 2 ∧ Z' = Z)) :
    Ct 9 2 12 yL_loanOf (.codeWith yL_loanOf cL_loanOf 5 (some (.int)) [(0, 10, 13, 24), (0, 10, 17, 13)]) [.ref 0, .int x0, .int x1, .ref 139] (mkH X) (.inl (some (.int z))) (mkH Z') := by
  refine Ct.ofH (LL := [some (.ref 0), some (.int x0), some (.int x1), some (.ref 139), none]) mkL_loanOf owL_loanOf rfl (Nat.le_of_ble_eq_true rfl) rfl (fun Wk C => ?_)
  have K := C.core
  refine K.aload_n (q := 1) dL_loanOf_0 rfl rfl ?_
  refine K.iconst (q := 2) (v := 0) dL_loanOf_1 rfl (by decide) ?_
  refine K.aload_n (q := 3) dL_loanOf_2 rfl rfl ?_
  refine K.iload_n (q := 4) dL_loanOf_3 rfl rfl ?_
  refine K.iload_n (q := 5) dL_loanOf_4 rfl rfl ?_
  rcases he with ⟨rfl, rfl, rfl⟩ | ⟨rfl, rfl, rfl⟩ | ⟨rfl, rfl, rfl⟩
  · refine K.callV (q := 8) mkX7_loanOf mw_L_38 (ct_ok hc rfl) rfl (by decide) rfl (lt141 (by decide)) rx0 (Nat.le_of_ble_eq_true rfl) (Nat.le_of_ble_eq_true rfl) (Nat.le_of_ble_eq_true rfl) dL_loanOf_5 rfl ?_
    refine K.i2l (q := 9) dL_loanOf_8 rfl ?_
    refine K.las (q := 10) (m := 0) rx139 (lt141 (by decide)) rfl rfl (by decide) (by decide) wo139 dL_loanOf_9 rfl ?_
    refine K.goto (tgt := 21) dL_loanOf_10 (by decide) ?_
    refine K.iconst (q := 22) (v := 0) dL_loanOf_21 rfl (by decide) ?_
    exact C.iret rfl rfl rfl rfl (Nat.le_of_ble_eq_true rfl) (Nat.le_of_ble_eq_true rfl) dL_loanOf_22
  · refine C.catchV (name := "java/lang/IndexOutOfBoundsException") (j := 4) (hp := 0) (ln := 2) (q := 15) mkX7_loanOf mw_L_38 (ct_ex hc (by decide)) rfl (by decide) rfl (lt141 (by decide)) rx0 (Nat.le_of_ble_eq_true rfl) (Nat.le_of_ble_eq_true rfl) (Nat.le_of_ble_eq_true rfl) dL_loanOf_5 [] ⟨0, 10, 13, 24⟩ [⟨0, 10, 17, 13⟩] rfl (fun z9 hz9 => absurd hz9 List.not_mem_nil) rfl (by decide) kw_L_24 cst_IOOBE (by decide) rfl (Or.inr ⟨rfl, dL_loanOf_13⟩) rfl ?_
    refine K.iconst (q := 16) (v := 1) dL_loanOf_15 rfl (by decide) ?_
    exact C.iret rfl rfl rfl rfl (Nat.le_of_ble_eq_true rfl) (Nat.le_of_ble_eq_true rfl) dL_loanOf_16
  · refine C.catchV (name := "java/lang/IllegalArgumentException") (j := 4) (hp := 0) (ln := 2) (q := 19) mkX7_loanOf mw_L_38 (ct_ex hc (by decide)) rfl (by decide) rfl (lt141 (by decide)) rx0 (Nat.le_of_ble_eq_true rfl) (Nat.le_of_ble_eq_true rfl) (Nat.le_of_ble_eq_true rfl) dL_loanOf_5 [⟨0, 10, 13, 24⟩] ⟨0, 10, 17, 13⟩ [] rfl (fun z9 hz9 => by rcases List.mem_singleton.mp hz9 with rfl; exact ⟨by decide, _, kw_L_24, ncs_all.2.1⟩) rfl (by decide) kw_L_13 cst_IAE (by decide) rfl (Or.inr ⟨rfl, dL_loanOf_17⟩) rfl ?_
    refine K.iconst (q := 20) (v := 2) dL_loanOf_19 rfl (by decide) ?_
    exact C.iret rfl rfl rfl rfl (Nat.le_of_ble_eq_true rfl) (Nat.le_of_ble_eq_true rfl) dL_loanOf_20
theorem L_nameOf {X Z Z' : GS} {e : String} {r : Int32} {z : Int32} {x0 : Int32} {x1 : Int32} (hc : Ct 6 1 6 yX7_nameOf (.code yX7_nameOf cX7_nameOf 3 (some (.int))) [.ref 0, .int x0, .int x1] (mkH X) (rT e (some (.int r))) (mkH Z)) (he : (e = "" ∧ z = 0 ∧ Z' = uO Z (up Z.2.2.2.1 0 r.toInt64)) ∨ (e = "java/lang/IllegalArgumentException" ∧ z = 1 ∧ Z' = Z) ∨ (e = "java/lang/IndexOutOfBoundsException" ∧ z = 2 ∧ Z' = Z)) :
    Ct 9 2 12 yL_nameOf (.codeWith yL_nameOf cL_nameOf 5 (some (.int)) [(0, 10, 13, 13), (0, 10, 17, 24)]) [.ref 0, .int x0, .int x1, .ref 139] (mkH X) (.inl (some (.int z))) (mkH Z') := by
  refine Ct.ofH (LL := [some (.ref 0), some (.int x0), some (.int x1), some (.ref 139), none]) mkL_nameOf owL_nameOf rfl (Nat.le_of_ble_eq_true rfl) rfl (fun Wk C => ?_)
  have K := C.core
  refine K.aload_n (q := 1) dL_nameOf_0 rfl rfl ?_
  refine K.iconst (q := 2) (v := 0) dL_nameOf_1 rfl (by decide) ?_
  refine K.aload_n (q := 3) dL_nameOf_2 rfl rfl ?_
  refine K.iload_n (q := 4) dL_nameOf_3 rfl rfl ?_
  refine K.iload_n (q := 5) dL_nameOf_4 rfl rfl ?_
  rcases he with ⟨rfl, rfl, rfl⟩ | ⟨rfl, rfl, rfl⟩ | ⟨rfl, rfl, rfl⟩
  · refine K.callV (q := 8) mkX7_nameOf mw_L_41 (ct_ok hc rfl) rfl (by decide) rfl (lt141 (by decide)) rx0 (Nat.le_of_ble_eq_true rfl) (Nat.le_of_ble_eq_true rfl) (Nat.le_of_ble_eq_true rfl) dL_nameOf_5 rfl ?_
    refine K.i2l (q := 9) dL_nameOf_8 rfl ?_
    refine K.las (q := 10) (m := 0) rx139 (lt141 (by decide)) rfl rfl (by decide) (by decide) wo139 dL_nameOf_9 rfl ?_
    refine K.goto (tgt := 21) dL_nameOf_10 (by decide) ?_
    refine K.iconst (q := 22) (v := 0) dL_nameOf_21 rfl (by decide) ?_
    exact C.iret rfl rfl rfl rfl (Nat.le_of_ble_eq_true rfl) (Nat.le_of_ble_eq_true rfl) dL_nameOf_22
  · refine C.catchV (name := "java/lang/IllegalArgumentException") (j := 4) (hp := 0) (ln := 2) (q := 15) mkX7_nameOf mw_L_41 (ct_ex hc (by decide)) rfl (by decide) rfl (lt141 (by decide)) rx0 (Nat.le_of_ble_eq_true rfl) (Nat.le_of_ble_eq_true rfl) (Nat.le_of_ble_eq_true rfl) dL_nameOf_5 [] ⟨0, 10, 13, 13⟩ [⟨0, 10, 17, 24⟩] rfl (fun z9 hz9 => absurd hz9 List.not_mem_nil) rfl (by decide) kw_L_13 cst_IAE (by decide) rfl (Or.inr ⟨rfl, dL_nameOf_13⟩) rfl ?_
    refine K.iconst (q := 16) (v := 1) dL_nameOf_15 rfl (by decide) ?_
    exact C.iret rfl rfl rfl rfl (Nat.le_of_ble_eq_true rfl) (Nat.le_of_ble_eq_true rfl) dL_nameOf_16
  · refine C.catchV (name := "java/lang/IndexOutOfBoundsException") (j := 4) (hp := 0) (ln := 2) (q := 19) mkX7_nameOf mw_L_41 (ct_ex hc (by decide)) rfl (by decide) rfl (lt141 (by decide)) rx0 (Nat.le_of_ble_eq_true rfl) (Nat.le_of_ble_eq_true rfl) (Nat.le_of_ble_eq_true rfl) dL_nameOf_5 [⟨0, 10, 13, 13⟩] ⟨0, 10, 17, 24⟩ [] rfl (fun z9 hz9 => by rcases List.mem_singleton.mp hz9 with rfl; exact ⟨by decide, _, kw_L_13, ncs_all.2.2.2.1⟩) rfl (by decide) kw_L_24 cst_IOOBE (by decide) rfl (Or.inr ⟨rfl, dL_nameOf_17⟩) rfl ?_
    refine K.iconst (q := 20) (v := 2) dL_nameOf_19 rfl (by decide) ?_
    exact C.iret rfl rfl rfl rfl (Nat.le_of_ble_eq_true rfl) (Nat.le_of_ble_eq_true rfl) dL_nameOf_20
theorem L_waitingOf {X Z Z' : GS} {e : String} {r : Int32} {z : Int32} {x0 : Int32} {x1 : Int32} (hc : Ct 6 1 6 yX7_waitingOf (.code yX7_waitingOf cX7_waitingOf 3 (some (.int))) [.ref 0, .int x0, .int x1] (mkH X) (rT e (some (.int r))) (mkH Z)) (he : (e = "" ∧ z = 0 ∧ Z' = uO Z (up Z.2.2.2.1 0 r.toInt64)) ∨ (e = "java/util/NoSuchElementException" ∧ z = 1 ∧ Z' = Z) ∨ (e = "java/lang/IllegalArgumentException" ∧ z = 2 ∧ Z' = Z)) :
    Ct 9 2 12 yL_waitingOf (.codeWith yL_waitingOf cL_waitingOf 5 (some (.int)) [(0, 10, 13, 47), (0, 10, 17, 13)]) [.ref 0, .int x0, .int x1, .ref 139] (mkH X) (.inl (some (.int z))) (mkH Z') := by
  refine Ct.ofH (LL := [some (.ref 0), some (.int x0), some (.int x1), some (.ref 139), none]) mkL_waitingOf owL_waitingOf rfl (Nat.le_of_ble_eq_true rfl) rfl (fun Wk C => ?_)
  have K := C.core
  refine K.aload_n (q := 1) dL_waitingOf_0 rfl rfl ?_
  refine K.iconst (q := 2) (v := 0) dL_waitingOf_1 rfl (by decide) ?_
  refine K.aload_n (q := 3) dL_waitingOf_2 rfl rfl ?_
  refine K.iload_n (q := 4) dL_waitingOf_3 rfl rfl ?_
  refine K.iload_n (q := 5) dL_waitingOf_4 rfl rfl ?_
  rcases he with ⟨rfl, rfl, rfl⟩ | ⟨rfl, rfl, rfl⟩ | ⟨rfl, rfl, rfl⟩
  · refine K.callV (q := 8) mkX7_waitingOf mw_L_44 (ct_ok hc rfl) rfl (by decide) rfl (lt141 (by decide)) rx0 (Nat.le_of_ble_eq_true rfl) (Nat.le_of_ble_eq_true rfl) (Nat.le_of_ble_eq_true rfl) dL_waitingOf_5 rfl ?_
    refine K.i2l (q := 9) dL_waitingOf_8 rfl ?_
    refine K.las (q := 10) (m := 0) rx139 (lt141 (by decide)) rfl rfl (by decide) (by decide) wo139 dL_waitingOf_9 rfl ?_
    refine K.goto (tgt := 21) dL_waitingOf_10 (by decide) ?_
    refine K.iconst (q := 22) (v := 0) dL_waitingOf_21 rfl (by decide) ?_
    exact C.iret rfl rfl rfl rfl (Nat.le_of_ble_eq_true rfl) (Nat.le_of_ble_eq_true rfl) dL_waitingOf_22
  · refine C.catchV (name := "java/util/NoSuchElementException") (j := 4) (hp := 0) (ln := 2) (q := 15) mkX7_waitingOf mw_L_44 (ct_ex hc (by decide)) rfl (by decide) rfl (lt141 (by decide)) rx0 (Nat.le_of_ble_eq_true rfl) (Nat.le_of_ble_eq_true rfl) (Nat.le_of_ble_eq_true rfl) dL_waitingOf_5 [] ⟨0, 10, 13, 47⟩ [⟨0, 10, 17, 13⟩] rfl (fun z9 hz9 => absurd hz9 List.not_mem_nil) rfl (by decide) kw_L_47 cst_NSE (by decide) rfl (Or.inr ⟨rfl, dL_waitingOf_13⟩) rfl ?_
    refine K.iconst (q := 16) (v := 1) dL_waitingOf_15 rfl (by decide) ?_
    exact C.iret rfl rfl rfl rfl (Nat.le_of_ble_eq_true rfl) (Nat.le_of_ble_eq_true rfl) dL_waitingOf_16
  · refine C.catchV (name := "java/lang/IllegalArgumentException") (j := 4) (hp := 0) (ln := 2) (q := 19) mkX7_waitingOf mw_L_44 (ct_ex hc (by decide)) rfl (by decide) rfl (lt141 (by decide)) rx0 (Nat.le_of_ble_eq_true rfl) (Nat.le_of_ble_eq_true rfl) (Nat.le_of_ble_eq_true rfl) dL_waitingOf_5 [⟨0, 10, 13, 47⟩] ⟨0, 10, 17, 13⟩ [] rfl (fun z9 hz9 => by rcases List.mem_singleton.mp hz9 with rfl; exact ⟨by decide, _, kw_L_47, ncs_all.2.2.2.2.1⟩) rfl (by decide) kw_L_13 cst_IAE (by decide) rfl (Or.inr ⟨rfl, dL_waitingOf_17⟩) rfl ?_
    refine K.iconst (q := 20) (v := 2) dL_waitingOf_19 rfl (by decide) ?_
    exact C.iret rfl rfl rfl rfl (Nat.le_of_ble_eq_true rfl) (Nat.le_of_ble_eq_true rfl) dL_waitingOf_20
theorem L_pieceOf {X Z Z' : GS} {e : String} {r : Int32} {z : Int32} {x0 : Int32} {x1 : Int32} (hc : Ct 6 1 6 yX7_pieceOf (.code yX7_pieceOf cX7_pieceOf 6 (some (.int))) [.ref 0, .int x0, .int x1] (mkH X) (rT e (some (.int r))) (mkH Z)) (he : (e = "" ∧ z = 0 ∧ Z' = uO Z (up Z.2.2.2.1 0 r.toInt64)) ∨ (e = "java/lang/IndexOutOfBoundsException" ∧ z = 1 ∧ Z' = Z) ∨ (e = "java/lang/IllegalArgumentException" ∧ z = 2 ∧ Z' = Z)) :
    Ct 9 2 12 yL_pieceOf (.codeWith yL_pieceOf cL_pieceOf 5 (some (.int)) [(0, 10, 13, 24), (0, 10, 17, 13)]) [.ref 0, .int x0, .int x1, .ref 139] (mkH X) (.inl (some (.int z))) (mkH Z') := by
  refine Ct.ofH (LL := [some (.ref 0), some (.int x0), some (.int x1), some (.ref 139), none]) mkL_pieceOf owL_pieceOf rfl (Nat.le_of_ble_eq_true rfl) rfl (fun Wk C => ?_)
  have K := C.core
  refine K.aload_n (q := 1) dL_pieceOf_0 rfl rfl ?_
  refine K.iconst (q := 2) (v := 0) dL_pieceOf_1 rfl (by decide) ?_
  refine K.aload_n (q := 3) dL_pieceOf_2 rfl rfl ?_
  refine K.iload_n (q := 4) dL_pieceOf_3 rfl rfl ?_
  refine K.iload_n (q := 5) dL_pieceOf_4 rfl rfl ?_
  rcases he with ⟨rfl, rfl, rfl⟩ | ⟨rfl, rfl, rfl⟩ | ⟨rfl, rfl, rfl⟩
  · refine K.callV (q := 8) mkX7_pieceOf mw_L_49 (ct_ok hc rfl) rfl (by decide) rfl (lt141 (by decide)) rx0 (Nat.le_of_ble_eq_true rfl) (Nat.le_of_ble_eq_true rfl) (Nat.le_of_ble_eq_true rfl) dL_pieceOf_5 rfl ?_
    refine K.i2l (q := 9) dL_pieceOf_8 rfl ?_
    refine K.las (q := 10) (m := 0) rx139 (lt141 (by decide)) rfl rfl (by decide) (by decide) wo139 dL_pieceOf_9 rfl ?_
    refine K.goto (tgt := 21) dL_pieceOf_10 (by decide) ?_
    refine K.iconst (q := 22) (v := 0) dL_pieceOf_21 rfl (by decide) ?_
    exact C.iret rfl rfl rfl rfl (Nat.le_of_ble_eq_true rfl) (Nat.le_of_ble_eq_true rfl) dL_pieceOf_22
  · refine C.catchV (name := "java/lang/IndexOutOfBoundsException") (j := 4) (hp := 0) (ln := 2) (q := 15) mkX7_pieceOf mw_L_49 (ct_ex hc (by decide)) rfl (by decide) rfl (lt141 (by decide)) rx0 (Nat.le_of_ble_eq_true rfl) (Nat.le_of_ble_eq_true rfl) (Nat.le_of_ble_eq_true rfl) dL_pieceOf_5 [] ⟨0, 10, 13, 24⟩ [⟨0, 10, 17, 13⟩] rfl (fun z9 hz9 => absurd hz9 List.not_mem_nil) rfl (by decide) kw_L_24 cst_IOOBE (by decide) rfl (Or.inr ⟨rfl, dL_pieceOf_13⟩) rfl ?_
    refine K.iconst (q := 16) (v := 1) dL_pieceOf_15 rfl (by decide) ?_
    exact C.iret rfl rfl rfl rfl (Nat.le_of_ble_eq_true rfl) (Nat.le_of_ble_eq_true rfl) dL_pieceOf_16
  · refine C.catchV (name := "java/lang/IllegalArgumentException") (j := 4) (hp := 0) (ln := 2) (q := 19) mkX7_pieceOf mw_L_49 (ct_ex hc (by decide)) rfl (by decide) rfl (lt141 (by decide)) rx0 (Nat.le_of_ble_eq_true rfl) (Nat.le_of_ble_eq_true rfl) (Nat.le_of_ble_eq_true rfl) dL_pieceOf_5 [⟨0, 10, 13, 24⟩] ⟨0, 10, 17, 13⟩ [] rfl (fun z9 hz9 => by rcases List.mem_singleton.mp hz9 with rfl; exact ⟨by decide, _, kw_L_24, ncs_all.2.1⟩) rfl (by decide) kw_L_13 cst_IAE (by decide) rfl (Or.inr ⟨rfl, dL_pieceOf_17⟩) rfl ?_
    refine K.iconst (q := 20) (v := 2) dL_pieceOf_19 rfl (by decide) ?_
    exact C.iret rfl rfl rfl rfl (Nat.le_of_ble_eq_true rfl) (Nat.le_of_ble_eq_true rfl) dL_pieceOf_20
theorem L_free {X Z Z' : GS} {e : String} {r : Int32} {z : Int32} {x0 : Int32} {x1 : Int32} (hc : Ct 6 1 6 yX7_free (.code yX7_free cX7_free 3 (some (.int))) [.ref 0, .int x0, .int x1] (mkH X) (rT e (some (.int r))) (mkH Z)) (he : (e = "" ∧ z = 0 ∧ Z' = uO Z (up Z.2.2.2.1 0 r.toInt64)) ∨ (e = "java/lang/IllegalArgumentException" ∧ z = 1 ∧ Z' = Z)) :
    Ct 9 2 12 yL_free (.codeWith yL_free cL_free 5 (some (.int)) [(0, 10, 13, 13)]) [.ref 0, .int x0, .int x1, .ref 139] (mkH X) (.inl (some (.int z))) (mkH Z') := by
  refine Ct.ofH (LL := [some (.ref 0), some (.int x0), some (.int x1), some (.ref 139), none]) mkL_free owL_free rfl (Nat.le_of_ble_eq_true rfl) rfl (fun Wk C => ?_)
  have K := C.core
  refine K.aload_n (q := 1) dL_free_0 rfl rfl ?_
  refine K.iconst (q := 2) (v := 0) dL_free_1 rfl (by decide) ?_
  refine K.aload_n (q := 3) dL_free_2 rfl rfl ?_
  refine K.iload_n (q := 4) dL_free_3 rfl rfl ?_
  refine K.iload_n (q := 5) dL_free_4 rfl rfl ?_
  rcases he with ⟨rfl, rfl, rfl⟩ | ⟨rfl, rfl, rfl⟩
  · refine K.callV (q := 8) mkX7_free mw_L_52 (ct_ok hc rfl) rfl (by decide) rfl (lt141 (by decide)) rx0 (Nat.le_of_ble_eq_true rfl) (Nat.le_of_ble_eq_true rfl) (Nat.le_of_ble_eq_true rfl) dL_free_5 rfl ?_
    refine K.i2l (q := 9) dL_free_8 rfl ?_
    refine K.las (q := 10) (m := 0) rx139 (lt141 (by decide)) rfl rfl (by decide) (by decide) wo139 dL_free_9 rfl ?_
    refine K.goto (tgt := 17) dL_free_10 (by decide) ?_
    refine K.iconst (q := 18) (v := 0) dL_free_17 rfl (by decide) ?_
    exact C.iret rfl rfl rfl rfl (Nat.le_of_ble_eq_true rfl) (Nat.le_of_ble_eq_true rfl) dL_free_18
  · refine C.catchV (name := "java/lang/IllegalArgumentException") (j := 4) (hp := 0) (ln := 2) (q := 15) mkX7_free mw_L_52 (ct_ex hc (by decide)) rfl (by decide) rfl (lt141 (by decide)) rx0 (Nat.le_of_ble_eq_true rfl) (Nat.le_of_ble_eq_true rfl) (Nat.le_of_ble_eq_true rfl) dL_free_5 [] ⟨0, 10, 13, 13⟩ [] rfl (fun z9 hz9 => absurd hz9 List.not_mem_nil) rfl (by decide) kw_L_13 cst_IAE (by decide) rfl (Or.inr ⟨rfl, dL_free_13⟩) rfl ?_
    refine K.iconst (q := 16) (v := 1) dL_free_15 rfl (by decide) ?_
    exact C.iret rfl rfl rfl rfl (Nat.le_of_ble_eq_true rfl) (Nat.le_of_ble_eq_true rfl) dL_free_16
theorem L_greatest {X Z Z' : GS} {e : String} {r : Int32} {z : Int32} (hc : Ct 6 1 6 yX7_greatest (.code yX7_greatest cX7_greatest 2 (some (.int))) [.ref 0] (mkH X) (rT e (some (.int r))) (mkH Z)) (he : (e = "" ∧ z = 0 ∧ Z' = uO Z (up Z.2.2.2.1 0 r.toInt64)) ∨ (e = "java/util/NoSuchElementException" ∧ z = 1 ∧ Z' = Z)) :
    Ct 9 2 12 yL_greatest (.codeWith yL_greatest cL_greatest 3 (some (.int)) [(0, 8, 11, 47)]) [.ref 0, .ref 139] (mkH X) (.inl (some (.int z))) (mkH Z') := by
  refine Ct.ofH (LL := [some (.ref 0), some (.ref 139), none]) mkL_greatest owL_greatest rfl (Nat.le_of_ble_eq_true rfl) rfl (fun Wk C => ?_)
  have K := C.core
  refine K.aload_n (q := 1) dL_greatest_0 rfl rfl ?_
  refine K.iconst (q := 2) (v := 0) dL_greatest_1 rfl (by decide) ?_
  refine K.aload_n (q := 3) dL_greatest_2 rfl rfl ?_
  rcases he with ⟨rfl, rfl, rfl⟩ | ⟨rfl, rfl, rfl⟩
  · refine K.callV (q := 6) mkX7_greatest mw_L_56 (ct_ok hc rfl) rfl (by decide) rfl (lt141 (by decide)) rx0 (Nat.le_of_ble_eq_true rfl) (Nat.le_of_ble_eq_true rfl) (Nat.le_of_ble_eq_true rfl) dL_greatest_3 rfl ?_
    refine K.i2l (q := 7) dL_greatest_6 rfl ?_
    refine K.las (q := 8) (m := 0) rx139 (lt141 (by decide)) rfl rfl (by decide) (by decide) wo139 dL_greatest_7 rfl ?_
    refine K.goto (tgt := 14) dL_greatest_8 (by decide) ?_
    refine K.iconst (q := 15) (v := 0) dL_greatest_14 rfl (by decide) ?_
    exact C.iret rfl rfl rfl rfl (Nat.le_of_ble_eq_true rfl) (Nat.le_of_ble_eq_true rfl) dL_greatest_15
  · refine C.catchV (name := "java/util/NoSuchElementException") (j := 2) (hp := 0) (ln := 1) (q := 12) mkX7_greatest mw_L_56 (ct_ex hc (by decide)) rfl (by decide) rfl (lt141 (by decide)) rx0 (Nat.le_of_ble_eq_true rfl) (Nat.le_of_ble_eq_true rfl) (Nat.le_of_ble_eq_true rfl) dL_greatest_3 [] ⟨0, 8, 11, 47⟩ [] rfl (fun z9 hz9 => absurd hz9 List.not_mem_nil) rfl (by decide) kw_L_47 cst_NSE (by decide) rfl (Or.inl ⟨2, rfl, rfl, dL_greatest_11⟩) rfl ?_
    refine K.iconst (q := 13) (v := 1) dL_greatest_12 rfl (by decide) ?_
    exact C.iret rfl rfl rfl rfl (Nat.le_of_ble_eq_true rfl) (Nat.le_of_ble_eq_true rfl) dL_greatest_13
theorem L_would {X Z Z' : GS} {e : String} {r : Int32} {z : Int32} {x0 : Int32} (hc : Ct 7 2 12 yX7_would (.code yX7_would cX7_would 4 (some (.int))) [.ref 0, .int x0] (mkH X) (rT e (some (.int r))) (mkH Z)) (he : (e = "" ∧ z = 0 ∧ Z' = uO Z (up Z.2.2.2.1 0 r.toInt64)) ∨ (e = "java/lang/IllegalArgumentException" ∧ z = 1 ∧ Z' = Z) ∨ (e = "java/util/NoSuchElementException" ∧ z = 2 ∧ Z' = Z)) :
    Ct 9 2 12 yL_would (.codeWith yL_would cL_would 4 (some (.int)) [(0, 9, 12, 13), (0, 9, 15, 47)]) [.ref 0, .int x0, .ref 139] (mkH X) (.inl (some (.int z))) (mkH Z') := by
  refine Ct.ofH (LL := [some (.ref 0), some (.int x0), some (.ref 139), none]) mkL_would owL_would rfl (Nat.le_of_ble_eq_true rfl) rfl (fun Wk C => ?_)
  have K := C.core
  refine K.aload_n (q := 1) dL_would_0 rfl rfl ?_
  refine K.iconst (q := 2) (v := 0) dL_would_1 rfl (by decide) ?_
  refine K.aload_n (q := 3) dL_would_2 rfl rfl ?_
  refine K.iload_n (q := 4) dL_would_3 rfl rfl ?_
  rcases he with ⟨rfl, rfl, rfl⟩ | ⟨rfl, rfl, rfl⟩ | ⟨rfl, rfl, rfl⟩
  · refine K.callV (q := 7) mkX7_would mw_L_60 (ct_ok hc rfl) rfl (by decide) rfl (lt141 (by decide)) rx0 (Nat.le_of_ble_eq_true rfl) (Nat.le_of_ble_eq_true rfl) (Nat.le_of_ble_eq_true rfl) dL_would_4 rfl ?_
    refine K.i2l (q := 8) dL_would_7 rfl ?_
    refine K.las (q := 9) (m := 0) rx139 (lt141 (by decide)) rfl rfl (by decide) (by decide) wo139 dL_would_8 rfl ?_
    refine K.goto (tgt := 18) dL_would_9 (by decide) ?_
    refine K.iconst (q := 19) (v := 0) dL_would_18 rfl (by decide) ?_
    exact C.iret rfl rfl rfl rfl (Nat.le_of_ble_eq_true rfl) (Nat.le_of_ble_eq_true rfl) dL_would_19
  · refine C.catchV (name := "java/lang/IllegalArgumentException") (j := 3) (hp := 0) (ln := 1) (q := 13) mkX7_would mw_L_60 (ct_ex hc (by decide)) rfl (by decide) rfl (lt141 (by decide)) rx0 (Nat.le_of_ble_eq_true rfl) (Nat.le_of_ble_eq_true rfl) (Nat.le_of_ble_eq_true rfl) dL_would_4 [] ⟨0, 9, 12, 13⟩ [⟨0, 9, 15, 47⟩] rfl (fun z9 hz9 => absurd hz9 List.not_mem_nil) rfl (by decide) kw_L_13 cst_IAE (by decide) rfl (Or.inl ⟨3, rfl, rfl, dL_would_12⟩) rfl ?_
    refine K.iconst (q := 14) (v := 1) dL_would_13 rfl (by decide) ?_
    exact C.iret rfl rfl rfl rfl (Nat.le_of_ble_eq_true rfl) (Nat.le_of_ble_eq_true rfl) dL_would_14
  · refine C.catchV (name := "java/util/NoSuchElementException") (j := 3) (hp := 0) (ln := 1) (q := 16) mkX7_would mw_L_60 (ct_ex hc (by decide)) rfl (by decide) rfl (lt141 (by decide)) rx0 (Nat.le_of_ble_eq_true rfl) (Nat.le_of_ble_eq_true rfl) (Nat.le_of_ble_eq_true rfl) dL_would_4 [⟨0, 9, 12, 13⟩] ⟨0, 9, 15, 47⟩ [] rfl (fun z9 hz9 => by rcases List.mem_singleton.mp hz9 with rfl; exact ⟨by decide, _, kw_L_13, ncs_all.2.2.2.2.2⟩) rfl (by decide) kw_L_47 cst_NSE (by decide) rfl (Or.inl ⟨3, rfl, rfl, dL_would_15⟩) rfl ?_
    refine K.iconst (q := 17) (v := 2) dL_would_16 rfl (by decide) ?_
    exact C.iret rfl rfl rfl rfl (Nat.le_of_ble_eq_true rfl) (Nat.le_of_ble_eq_true rfl) dL_would_17
theorem L_cuts {X Z Z' : GS} {e : String} {r : Int32} {z : Int32} {x0 : Int32} (hc : Ct 7 2 12 yX7_cuts (.code yX7_cuts cX7_cuts 6 (some (.int))) [.ref 0, .int x0] (mkH X) (rT e (some (.int r))) (mkH Z)) (he : (e = "" ∧ z = 0 ∧ Z' = uO Z (up Z.2.2.2.1 0 r.toInt64)) ∨ (e = "java/lang/IllegalArgumentException" ∧ z = 1 ∧ Z' = Z) ∨ (e = "java/util/NoSuchElementException" ∧ z = 2 ∧ Z' = Z)) :
    Ct 9 2 12 yL_cuts (.codeWith yL_cuts cL_cuts 4 (some (.int)) [(0, 9, 12, 13), (0, 9, 15, 47)]) [.ref 0, .int x0, .ref 139] (mkH X) (.inl (some (.int z))) (mkH Z') := by
  refine Ct.ofH (LL := [some (.ref 0), some (.int x0), some (.ref 139), none]) mkL_cuts owL_cuts rfl (Nat.le_of_ble_eq_true rfl) rfl (fun Wk C => ?_)
  have K := C.core
  refine K.aload_n (q := 1) dL_cuts_0 rfl rfl ?_
  refine K.iconst (q := 2) (v := 0) dL_cuts_1 rfl (by decide) ?_
  refine K.aload_n (q := 3) dL_cuts_2 rfl rfl ?_
  refine K.iload_n (q := 4) dL_cuts_3 rfl rfl ?_
  rcases he with ⟨rfl, rfl, rfl⟩ | ⟨rfl, rfl, rfl⟩ | ⟨rfl, rfl, rfl⟩
  · refine K.callV (q := 7) mkX7_cuts mw_L_63 (ct_ok hc rfl) rfl (by decide) rfl (lt141 (by decide)) rx0 (Nat.le_of_ble_eq_true rfl) (Nat.le_of_ble_eq_true rfl) (Nat.le_of_ble_eq_true rfl) dL_cuts_4 rfl ?_
    refine K.i2l (q := 8) dL_cuts_7 rfl ?_
    refine K.las (q := 9) (m := 0) rx139 (lt141 (by decide)) rfl rfl (by decide) (by decide) wo139 dL_cuts_8 rfl ?_
    refine K.goto (tgt := 18) dL_cuts_9 (by decide) ?_
    refine K.iconst (q := 19) (v := 0) dL_cuts_18 rfl (by decide) ?_
    exact C.iret rfl rfl rfl rfl (Nat.le_of_ble_eq_true rfl) (Nat.le_of_ble_eq_true rfl) dL_cuts_19
  · refine C.catchV (name := "java/lang/IllegalArgumentException") (j := 3) (hp := 0) (ln := 1) (q := 13) mkX7_cuts mw_L_63 (ct_ex hc (by decide)) rfl (by decide) rfl (lt141 (by decide)) rx0 (Nat.le_of_ble_eq_true rfl) (Nat.le_of_ble_eq_true rfl) (Nat.le_of_ble_eq_true rfl) dL_cuts_4 [] ⟨0, 9, 12, 13⟩ [⟨0, 9, 15, 47⟩] rfl (fun z9 hz9 => absurd hz9 List.not_mem_nil) rfl (by decide) kw_L_13 cst_IAE (by decide) rfl (Or.inl ⟨3, rfl, rfl, dL_cuts_12⟩) rfl ?_
    refine K.iconst (q := 14) (v := 1) dL_cuts_13 rfl (by decide) ?_
    exact C.iret rfl rfl rfl rfl (Nat.le_of_ble_eq_true rfl) (Nat.le_of_ble_eq_true rfl) dL_cuts_14
  · refine C.catchV (name := "java/util/NoSuchElementException") (j := 3) (hp := 0) (ln := 1) (q := 16) mkX7_cuts mw_L_63 (ct_ex hc (by decide)) rfl (by decide) rfl (lt141 (by decide)) rx0 (Nat.le_of_ble_eq_true rfl) (Nat.le_of_ble_eq_true rfl) (Nat.le_of_ble_eq_true rfl) dL_cuts_4 [⟨0, 9, 12, 13⟩] ⟨0, 9, 15, 47⟩ [] rfl (fun z9 hz9 => by rcases List.mem_singleton.mp hz9 with rfl; exact ⟨by decide, _, kw_L_13, ncs_all.2.2.2.2.2⟩) rfl (by decide) kw_L_47 cst_NSE (by decide) rfl (Or.inl ⟨3, rfl, rfl, dL_cuts_15⟩) rfl ?_
    refine K.iconst (q := 17) (v := 2) dL_cuts_16 rfl (by decide) ?_
    exact C.iret rfl rfl rfl rfl (Nat.le_of_ble_eq_true rfl) (Nat.le_of_ble_eq_true rfl) dL_cuts_17
theorem L_fits {X Z Z' : GS} {e : String} {r : Int32} {z : Int32} {x0 : Int32} (hc : Ct 7 1 6 yX7_fits (.code yX7_fits cX7_fits 2 (some (.int))) [.ref 0, .int x0] (mkH X) (rT e (some (.int r))) (mkH Z)) (he : (e = "" ∧ z = 0 ∧ Z' = uO Z (up Z.2.2.2.1 0 r.toInt64)) ∨ (e = "java/lang/IllegalArgumentException" ∧ z = 1 ∧ Z' = Z)) :
    Ct 9 2 12 yL_fits (.codeWith yL_fits cL_fits 4 (some (.int)) [(0, 9, 12, 13)]) [.ref 0, .int x0, .ref 139] (mkH X) (.inl (some (.int z))) (mkH Z') := by
  refine Ct.ofH (LL := [some (.ref 0), some (.int x0), some (.ref 139), none]) mkL_fits owL_fits rfl (Nat.le_of_ble_eq_true rfl) rfl (fun Wk C => ?_)
  have K := C.core
  refine K.aload_n (q := 1) dL_fits_0 rfl rfl ?_
  refine K.iconst (q := 2) (v := 0) dL_fits_1 rfl (by decide) ?_
  refine K.aload_n (q := 3) dL_fits_2 rfl rfl ?_
  refine K.iload_n (q := 4) dL_fits_3 rfl rfl ?_
  rcases he with ⟨rfl, rfl, rfl⟩ | ⟨rfl, rfl, rfl⟩
  · refine K.callV (q := 7) mkX7_fits mw_L_66 (ct_ok hc rfl) rfl (by decide) rfl (lt141 (by decide)) rx0 (Nat.le_of_ble_eq_true rfl) (Nat.le_of_ble_eq_true rfl) (Nat.le_of_ble_eq_true rfl) dL_fits_4 rfl ?_
    refine K.i2l (q := 8) dL_fits_7 rfl ?_
    refine K.las (q := 9) (m := 0) rx139 (lt141 (by decide)) rfl rfl (by decide) (by decide) wo139 dL_fits_8 rfl ?_
    refine K.goto (tgt := 15) dL_fits_9 (by decide) ?_
    refine K.iconst (q := 16) (v := 0) dL_fits_15 rfl (by decide) ?_
    exact C.iret rfl rfl rfl rfl (Nat.le_of_ble_eq_true rfl) (Nat.le_of_ble_eq_true rfl) dL_fits_16
  · refine C.catchV (name := "java/lang/IllegalArgumentException") (j := 3) (hp := 0) (ln := 1) (q := 13) mkX7_fits mw_L_66 (ct_ex hc (by decide)) rfl (by decide) rfl (lt141 (by decide)) rx0 (Nat.le_of_ble_eq_true rfl) (Nat.le_of_ble_eq_true rfl) (Nat.le_of_ble_eq_true rfl) dL_fits_4 [] ⟨0, 9, 12, 13⟩ [] rfl (fun z9 hz9 => absurd hz9 List.not_mem_nil) rfl (by decide) kw_L_13 cst_IAE (by decide) rfl (Or.inl ⟨3, rfl, rfl, dL_fits_12⟩) rfl ?_
    refine K.iconst (q := 14) (v := 1) dL_fits_13 rfl (by decide) ?_
    exact C.iret rfl rfl rfl rfl (Nat.le_of_ble_eq_true rfl) (Nat.le_of_ble_eq_true rfl) dL_fits_14
theorem L_hole {X Z Z' : GS} {e : String} {r : Int32} {z : Int32} {x0 : Int32} (hc : Ct 6 1 6 yX7_hole (.code yX7_hole cX7_hole 3 (some (.int))) [.ref 0, .int x0] (mkH X) (rT e (some (.int r))) (mkH Z)) (he : (e = "" ∧ z = 0 ∧ Z' = uO Z (up Z.2.2.2.1 0 r.toInt64)) ∨ (e = "java/util/NoSuchElementException" ∧ z = 1 ∧ Z' = Z)) :
    Ct 9 2 12 yL_hole (.codeWith yL_hole cL_hole 4 (some (.int)) [(0, 9, 12, 47)]) [.ref 0, .int x0, .ref 139] (mkH X) (.inl (some (.int z))) (mkH Z') := by
  refine Ct.ofH (LL := [some (.ref 0), some (.int x0), some (.ref 139), none]) mkL_hole owL_hole rfl (Nat.le_of_ble_eq_true rfl) rfl (fun Wk C => ?_)
  have K := C.core
  refine K.aload_n (q := 1) dL_hole_0 rfl rfl ?_
  refine K.iconst (q := 2) (v := 0) dL_hole_1 rfl (by decide) ?_
  refine K.aload_n (q := 3) dL_hole_2 rfl rfl ?_
  refine K.iload_n (q := 4) dL_hole_3 rfl rfl ?_
  rcases he with ⟨rfl, rfl, rfl⟩ | ⟨rfl, rfl, rfl⟩
  · refine K.callV (q := 7) mkX7_hole mw_L_69 (ct_ok hc rfl) rfl (by decide) rfl (lt141 (by decide)) rx0 (Nat.le_of_ble_eq_true rfl) (Nat.le_of_ble_eq_true rfl) (Nat.le_of_ble_eq_true rfl) dL_hole_4 rfl ?_
    refine K.i2l (q := 8) dL_hole_7 rfl ?_
    refine K.las (q := 9) (m := 0) rx139 (lt141 (by decide)) rfl rfl (by decide) (by decide) wo139 dL_hole_8 rfl ?_
    refine K.goto (tgt := 15) dL_hole_9 (by decide) ?_
    refine K.iconst (q := 16) (v := 0) dL_hole_15 rfl (by decide) ?_
    exact C.iret rfl rfl rfl rfl (Nat.le_of_ble_eq_true rfl) (Nat.le_of_ble_eq_true rfl) dL_hole_16
  · refine C.catchV (name := "java/util/NoSuchElementException") (j := 3) (hp := 0) (ln := 1) (q := 13) mkX7_hole mw_L_69 (ct_ex hc (by decide)) rfl (by decide) rfl (lt141 (by decide)) rx0 (Nat.le_of_ble_eq_true rfl) (Nat.le_of_ble_eq_true rfl) (Nat.le_of_ble_eq_true rfl) dL_hole_4 [] ⟨0, 9, 12, 47⟩ [] rfl (fun z9 hz9 => absurd hz9 List.not_mem_nil) rfl (by decide) kw_L_47 cst_NSE (by decide) rfl (Or.inl ⟨3, rfl, rfl, dL_hole_12⟩) rfl ?_
    refine K.iconst (q := 14) (v := 1) dL_hole_13 rfl (by decide) ?_
    exact C.iret rfl rfl rfl rfl (Nat.le_of_ble_eq_true rfl) (Nat.le_of_ble_eq_true rfl) dL_hole_14
theorem L_inTheWay {X Z Z' : GS} {e : String} {r : Int32} {z : Int32} {x0 : Int32} (hc : Ct 7 1 6 yX7_inTheWay (.code yX7_inTheWay cX7_inTheWay 2 (some (.int))) [.ref 0, .int x0] (mkH X) (rT e (some (.int r))) (mkH Z)) (he : (e = "" ∧ z = 0 ∧ Z' = uO Z (up Z.2.2.2.1 0 r.toInt64)) ∨ (e = "java/lang/IllegalArgumentException" ∧ z = 1 ∧ Z' = Z)) :
    Ct 9 2 12 yL_inTheWay (.codeWith yL_inTheWay cL_inTheWay 4 (some (.int)) [(0, 9, 12, 13)]) [.ref 0, .int x0, .ref 139] (mkH X) (.inl (some (.int z))) (mkH Z') := by
  refine Ct.ofH (LL := [some (.ref 0), some (.int x0), some (.ref 139), none]) mkL_inTheWay owL_inTheWay rfl (Nat.le_of_ble_eq_true rfl) rfl (fun Wk C => ?_)
  have K := C.core
  refine K.aload_n (q := 1) dL_inTheWay_0 rfl rfl ?_
  refine K.iconst (q := 2) (v := 0) dL_inTheWay_1 rfl (by decide) ?_
  refine K.aload_n (q := 3) dL_inTheWay_2 rfl rfl ?_
  refine K.iload_n (q := 4) dL_inTheWay_3 rfl rfl ?_
  rcases he with ⟨rfl, rfl, rfl⟩ | ⟨rfl, rfl, rfl⟩
  · refine K.callV (q := 7) mkX7_inTheWay mw_L_72 (ct_ok hc rfl) rfl (by decide) rfl (lt141 (by decide)) rx0 (Nat.le_of_ble_eq_true rfl) (Nat.le_of_ble_eq_true rfl) (Nat.le_of_ble_eq_true rfl) dL_inTheWay_4 rfl ?_
    refine K.i2l (q := 8) dL_inTheWay_7 rfl ?_
    refine K.las (q := 9) (m := 0) rx139 (lt141 (by decide)) rfl rfl (by decide) (by decide) wo139 dL_inTheWay_8 rfl ?_
    refine K.goto (tgt := 15) dL_inTheWay_9 (by decide) ?_
    refine K.iconst (q := 16) (v := 0) dL_inTheWay_15 rfl (by decide) ?_
    exact C.iret rfl rfl rfl rfl (Nat.le_of_ble_eq_true rfl) (Nat.le_of_ble_eq_true rfl) dL_inTheWay_16
  · refine C.catchV (name := "java/lang/IllegalArgumentException") (j := 3) (hp := 0) (ln := 1) (q := 13) mkX7_inTheWay mw_L_72 (ct_ex hc (by decide)) rfl (by decide) rfl (lt141 (by decide)) rx0 (Nat.le_of_ble_eq_true rfl) (Nat.le_of_ble_eq_true rfl) (Nat.le_of_ble_eq_true rfl) dL_inTheWay_4 [] ⟨0, 9, 12, 13⟩ [] rfl (fun z9 hz9 => absurd hz9 List.not_mem_nil) rfl (by decide) kw_L_13 cst_IAE (by decide) rfl (Or.inl ⟨3, rfl, rfl, dL_inTheWay_12⟩) rfl ?_
    refine K.iconst (q := 14) (v := 1) dL_inTheWay_13 rfl (by decide) ?_
    exact C.iret rfl rfl rfl rfl (Nat.le_of_ble_eq_true rfl) (Nat.le_of_ble_eq_true rfl) dL_inTheWay_14
theorem L_ranked {X Z Z' : GS} {e : String} {r : Int32} {z : Int32} {x0 : Int32} (hc : Ct 6 1 6 yX7_ranked (.code yX7_ranked cX7_ranked 3 (some (.int))) [.ref 0, .int x0] (mkH X) (rT e (some (.int r))) (mkH Z)) (he : (e = "" ∧ z = 0 ∧ Z' = uO Z (up Z.2.2.2.1 0 r.toInt64)) ∨ (e = "java/util/NoSuchElementException" ∧ z = 1 ∧ Z' = Z)) :
    Ct 9 2 12 yL_ranked (.codeWith yL_ranked cL_ranked 4 (some (.int)) [(0, 9, 12, 47)]) [.ref 0, .int x0, .ref 139] (mkH X) (.inl (some (.int z))) (mkH Z') := by
  refine Ct.ofH (LL := [some (.ref 0), some (.int x0), some (.ref 139), none]) mkL_ranked owL_ranked rfl (Nat.le_of_ble_eq_true rfl) rfl (fun Wk C => ?_)
  have K := C.core
  refine K.aload_n (q := 1) dL_ranked_0 rfl rfl ?_
  refine K.iconst (q := 2) (v := 0) dL_ranked_1 rfl (by decide) ?_
  refine K.aload_n (q := 3) dL_ranked_2 rfl rfl ?_
  refine K.iload_n (q := 4) dL_ranked_3 rfl rfl ?_
  rcases he with ⟨rfl, rfl, rfl⟩ | ⟨rfl, rfl, rfl⟩
  · refine K.callV (q := 7) mkX7_ranked mw_L_75 (ct_ok hc rfl) rfl (by decide) rfl (lt141 (by decide)) rx0 (Nat.le_of_ble_eq_true rfl) (Nat.le_of_ble_eq_true rfl) (Nat.le_of_ble_eq_true rfl) dL_ranked_4 rfl ?_
    refine K.i2l (q := 8) dL_ranked_7 rfl ?_
    refine K.las (q := 9) (m := 0) rx139 (lt141 (by decide)) rfl rfl (by decide) (by decide) wo139 dL_ranked_8 rfl ?_
    refine K.goto (tgt := 15) dL_ranked_9 (by decide) ?_
    refine K.iconst (q := 16) (v := 0) dL_ranked_15 rfl (by decide) ?_
    exact C.iret rfl rfl rfl rfl (Nat.le_of_ble_eq_true rfl) (Nat.le_of_ble_eq_true rfl) dL_ranked_16
  · refine C.catchV (name := "java/util/NoSuchElementException") (j := 3) (hp := 0) (ln := 1) (q := 13) mkX7_ranked mw_L_75 (ct_ex hc (by decide)) rfl (by decide) rfl (lt141 (by decide)) rx0 (Nat.le_of_ble_eq_true rfl) (Nat.le_of_ble_eq_true rfl) (Nat.le_of_ble_eq_true rfl) dL_ranked_4 [] ⟨0, 9, 12, 47⟩ [] rfl (fun z9 hz9 => absurd hz9 List.not_mem_nil) rfl (by decide) kw_L_47 cst_NSE (by decide) rfl (Or.inl ⟨3, rfl, rfl, dL_ranked_12⟩) rfl ?_
    refine K.iconst (q := 14) (v := 1) dL_ranked_13 rfl (by decide) ?_
    exact C.iret rfl rfl rfl rfl (Nat.le_of_ble_eq_true rfl) (Nat.le_of_ble_eq_true rfl) dL_ranked_14
theorem L_character {X Z Z' : GS} {e : String} {r : Int32} {z : Int32} {x0 : Int32} (hc : Ct 6 1 6 yX7_character (.code yX7_character cX7_character 2 (some (.char))) [.ref 0, .int x0] (mkH X) (rT e (some (.int r))) (mkH Z)) (he : (e = "" ∧ z = 0 ∧ Z' = uO Z (up Z.2.2.2.1 0 r.toInt64)) ∨ (e = "java/lang/IndexOutOfBoundsException" ∧ z = 1 ∧ Z' = Z)) :
    Ct 9 2 12 yL_character (.codeWith yL_character cL_character 4 (some (.int)) [(0, 9, 12, 24)]) [.ref 0, .int x0, .ref 139] (mkH X) (.inl (some (.int z))) (mkH Z') := by
  refine Ct.ofH (LL := [some (.ref 0), some (.int x0), some (.ref 139), none]) mkL_character owL_character rfl (Nat.le_of_ble_eq_true rfl) rfl (fun Wk C => ?_)
  have K := C.core
  refine K.aload_n (q := 1) dL_character_0 rfl rfl ?_
  refine K.iconst (q := 2) (v := 0) dL_character_1 rfl (by decide) ?_
  refine K.aload_n (q := 3) dL_character_2 rfl rfl ?_
  refine K.iload_n (q := 4) dL_character_3 rfl rfl ?_
  rcases he with ⟨rfl, rfl, rfl⟩ | ⟨rfl, rfl, rfl⟩
  · refine K.callV (q := 7) mkX7_character mw_L_78 (ct_ok hc rfl) rfl (by decide) rfl (lt141 (by decide)) rx0 (Nat.le_of_ble_eq_true rfl) (Nat.le_of_ble_eq_true rfl) (Nat.le_of_ble_eq_true rfl) dL_character_4 rfl ?_
    refine K.i2l (q := 8) dL_character_7 rfl ?_
    refine K.las (q := 9) (m := 0) rx139 (lt141 (by decide)) rfl rfl (by decide) (by decide) wo139 dL_character_8 rfl ?_
    refine K.goto (tgt := 15) dL_character_9 (by decide) ?_
    refine K.iconst (q := 16) (v := 0) dL_character_15 rfl (by decide) ?_
    exact C.iret rfl rfl rfl rfl (Nat.le_of_ble_eq_true rfl) (Nat.le_of_ble_eq_true rfl) dL_character_16
  · refine C.catchV (name := "java/lang/IndexOutOfBoundsException") (j := 3) (hp := 0) (ln := 1) (q := 13) mkX7_character mw_L_78 (ct_ex hc (by decide)) rfl (by decide) rfl (lt141 (by decide)) rx0 (Nat.le_of_ble_eq_true rfl) (Nat.le_of_ble_eq_true rfl) (Nat.le_of_ble_eq_true rfl) dL_character_4 [] ⟨0, 9, 12, 24⟩ [] rfl (fun z9 hz9 => absurd hz9 List.not_mem_nil) rfl (by decide) kw_L_24 cst_IOOBE (by decide) rfl (Or.inl ⟨3, rfl, rfl, dL_character_12⟩) rfl ?_
    refine K.iconst (q := 14) (v := 1) dL_character_13 rfl (by decide) ?_
    exact C.iret rfl rfl rfl rfl (Nat.le_of_ble_eq_true rfl) (Nat.le_of_ble_eq_true rfl) dL_character_14
theorem L_append {X Z Z' : GS} {e : String} {r : Int32} {z : Int32} {x0 : Int32} (hc : Ct 6 1 6 yX7_append (.code yX7_append cX7_append 2 (some (.int))) [.ref 0, .int x0] (mkH X) (rT e (some (.int r))) (mkH Z)) (he : (e = "" ∧ z = 0 ∧ Z' = uO Z (up Z.2.2.2.1 0 r.toInt64)) ∨ (e = "java/lang/IllegalStateException" ∧ z = 1 ∧ Z' = Z)) :
    Ct 9 2 12 yL_append (.codeWith yL_append cL_append 4 (some (.int)) [(0, 9, 12, 86)]) [.ref 0, .int x0, .ref 139] (mkH X) (.inl (some (.int z))) (mkH Z') := by
  refine Ct.ofH (LL := [some (.ref 0), some (.int x0), some (.ref 139), none]) mkL_append owL_append rfl (Nat.le_of_ble_eq_true rfl) rfl (fun Wk C => ?_)
  have K := C.core
  refine K.aload_n (q := 1) dL_append_0 rfl rfl ?_
  refine K.iconst (q := 2) (v := 0) dL_append_1 rfl (by decide) ?_
  refine K.aload_n (q := 3) dL_append_2 rfl rfl ?_
  refine K.iload_n (q := 4) dL_append_3 rfl rfl ?_
  rcases he with ⟨rfl, rfl, rfl⟩ | ⟨rfl, rfl, rfl⟩
  · refine K.callV (q := 7) mkX7_append mw_L_82 (ct_ok hc rfl) rfl (by decide) rfl (lt141 (by decide)) rx0 (Nat.le_of_ble_eq_true rfl) (Nat.le_of_ble_eq_true rfl) (Nat.le_of_ble_eq_true rfl) dL_append_4 rfl ?_
    refine K.i2l (q := 8) dL_append_7 rfl ?_
    refine K.las (q := 9) (m := 0) rx139 (lt141 (by decide)) rfl rfl (by decide) (by decide) wo139 dL_append_8 rfl ?_
    refine K.goto (tgt := 15) dL_append_9 (by decide) ?_
    refine K.iconst (q := 16) (v := 0) dL_append_15 rfl (by decide) ?_
    exact C.iret rfl rfl rfl rfl (Nat.le_of_ble_eq_true rfl) (Nat.le_of_ble_eq_true rfl) dL_append_16
  · refine C.catchV (name := "java/lang/IllegalStateException") (j := 3) (hp := 0) (ln := 1) (q := 13) mkX7_append mw_L_82 (ct_ex hc (by decide)) rfl (by decide) rfl (lt141 (by decide)) rx0 (Nat.le_of_ble_eq_true rfl) (Nat.le_of_ble_eq_true rfl) (Nat.le_of_ble_eq_true rfl) dL_append_4 [] ⟨0, 9, 12, 86⟩ [] rfl (fun z9 hz9 => absurd hz9 List.not_mem_nil) rfl (by decide) kw_L_86 cst_ISE (by decide) rfl (Or.inl ⟨3, rfl, rfl, dL_append_12⟩) rfl ?_
    refine K.iconst (q := 14) (v := 1) dL_append_13 rfl (by decide) ?_
    exact C.iret rfl rfl rfl rfl (Nat.le_of_ble_eq_true rfl) (Nat.le_of_ble_eq_true rfl) dL_append_14
theorem L_run {X Z Z' : GS} {e : String} {r : Int32} {z : Int32} (hc : Ct 8 1 6 yX7_run (.code yX7_run cX7_run 3 (some (.int))) [.ref 0] (mkH X) (rT e (some (.int r))) (mkH Z)) (he : (e = "" ∧ z = 0 ∧ Z' = uO Z (up Z.2.2.2.1 0 r.toInt64)) ∨ (e = "java/lang/IllegalArgumentException" ∧ z = 1 ∧ Z' = Z) ∨ (e = "java/lang/UnsupportedOperationException" ∧ z = 2 ∧ Z' = Z)) :
    Ct 9 2 12 yL_run (.codeWith yL_run cL_run 3 (some (.int)) [(0, 8, 11, 13), (0, 8, 14, 15)]) [.ref 0, .ref 139] (mkH X) (.inl (some (.int z))) (mkH Z') := by
  refine Ct.ofH (LL := [some (.ref 0), some (.ref 139), none]) mkL_run owL_run rfl (Nat.le_of_ble_eq_true rfl) rfl (fun Wk C => ?_)
  have K := C.core
  refine K.aload_n (q := 1) dL_run_0 rfl rfl ?_
  refine K.iconst (q := 2) (v := 0) dL_run_1 rfl (by decide) ?_
  refine K.aload_n (q := 3) dL_run_2 rfl rfl ?_
  rcases he with ⟨rfl, rfl, rfl⟩ | ⟨rfl, rfl, rfl⟩ | ⟨rfl, rfl, rfl⟩
  · refine K.callV (q := 6) mkX7_run mw_L_88 (ct_ok hc rfl) rfl (by decide) rfl (lt141 (by decide)) rx0 (Nat.le_of_ble_eq_true rfl) (Nat.le_of_ble_eq_true rfl) (Nat.le_of_ble_eq_true rfl) dL_run_3 rfl ?_
    refine K.i2l (q := 7) dL_run_6 rfl ?_
    refine K.las (q := 8) (m := 0) rx139 (lt141 (by decide)) rfl rfl (by decide) (by decide) wo139 dL_run_7 rfl ?_
    refine K.goto (tgt := 17) dL_run_8 (by decide) ?_
    refine K.iconst (q := 18) (v := 0) dL_run_17 rfl (by decide) ?_
    exact C.iret rfl rfl rfl rfl (Nat.le_of_ble_eq_true rfl) (Nat.le_of_ble_eq_true rfl) dL_run_18
  · refine C.catchV (name := "java/lang/IllegalArgumentException") (j := 2) (hp := 0) (ln := 1) (q := 12) mkX7_run mw_L_88 (ct_ex hc (by decide)) rfl (by decide) rfl (lt141 (by decide)) rx0 (Nat.le_of_ble_eq_true rfl) (Nat.le_of_ble_eq_true rfl) (Nat.le_of_ble_eq_true rfl) dL_run_3 [] ⟨0, 8, 11, 13⟩ [⟨0, 8, 14, 15⟩] rfl (fun z9 hz9 => absurd hz9 List.not_mem_nil) rfl (by decide) kw_L_13 cst_IAE (by decide) rfl (Or.inl ⟨2, rfl, rfl, dL_run_11⟩) rfl ?_
    refine K.iconst (q := 13) (v := 1) dL_run_12 rfl (by decide) ?_
    exact C.iret rfl rfl rfl rfl (Nat.le_of_ble_eq_true rfl) (Nat.le_of_ble_eq_true rfl) dL_run_13
  · refine C.catchV (name := "java/lang/UnsupportedOperationException") (j := 2) (hp := 0) (ln := 1) (q := 15) mkX7_run mw_L_88 (ct_ex hc (by decide)) rfl (by decide) rfl (lt141 (by decide)) rx0 (Nat.le_of_ble_eq_true rfl) (Nat.le_of_ble_eq_true rfl) (Nat.le_of_ble_eq_true rfl) dL_run_3 [⟨0, 8, 11, 13⟩] ⟨0, 8, 14, 15⟩ [] rfl (fun z9 hz9 => by rcases List.mem_singleton.mp hz9 with rfl; exact ⟨by decide, _, kw_L_13, ncs_all.1⟩) rfl (by decide) kw_L_15 cst_UOE (by decide) rfl (Or.inl ⟨2, rfl, rfl, dL_run_14⟩) rfl ?_
    refine K.iconst (q := 16) (v := 2) dL_run_15 rfl (by decide) ?_
    exact C.iret rfl rfl rfl rfl (Nat.le_of_ble_eq_true rfl) (Nat.le_of_ble_eq_true rfl) dL_run_16
theorem L_refusal {X Z Z' : GS} {e : String} {r : Int32} {z : Int32} {x0 : Int32} (hc : Ct 6 1 6 yX7_refusal (.code yX7_refusal cX7_refusal 2 (some (.int))) [.ref 0, .int x0] (mkH X) (rT e (some (.int r))) (mkH Z)) (he : (e = "" ∧ z = 0 ∧ Z' = uO Z (up Z.2.2.2.1 0 r.toInt64)) ∨ (e = "java/util/NoSuchElementException" ∧ z = 1 ∧ Z' = Z)) :
    Ct 9 2 12 yL_refusal (.codeWith yL_refusal cL_refusal 4 (some (.int)) [(0, 9, 12, 47)]) [.ref 0, .int x0, .ref 139] (mkH X) (.inl (some (.int z))) (mkH Z') := by
  refine Ct.ofH (LL := [some (.ref 0), some (.int x0), some (.ref 139), none]) mkL_refusal owL_refusal rfl (Nat.le_of_ble_eq_true rfl) rfl (fun Wk C => ?_)
  have K := C.core
  refine K.aload_n (q := 1) dL_refusal_0 rfl rfl ?_
  refine K.iconst (q := 2) (v := 0) dL_refusal_1 rfl (by decide) ?_
  refine K.aload_n (q := 3) dL_refusal_2 rfl rfl ?_
  refine K.iload_n (q := 4) dL_refusal_3 rfl rfl ?_
  rcases he with ⟨rfl, rfl, rfl⟩ | ⟨rfl, rfl, rfl⟩
  · refine K.callV (q := 7) mkX7_refusal mw_L_91 (ct_ok hc rfl) rfl (by decide) rfl (lt141 (by decide)) rx0 (Nat.le_of_ble_eq_true rfl) (Nat.le_of_ble_eq_true rfl) (Nat.le_of_ble_eq_true rfl) dL_refusal_4 rfl ?_
    refine K.i2l (q := 8) dL_refusal_7 rfl ?_
    refine K.las (q := 9) (m := 0) rx139 (lt141 (by decide)) rfl rfl (by decide) (by decide) wo139 dL_refusal_8 rfl ?_
    refine K.goto (tgt := 15) dL_refusal_9 (by decide) ?_
    refine K.iconst (q := 16) (v := 0) dL_refusal_15 rfl (by decide) ?_
    exact C.iret rfl rfl rfl rfl (Nat.le_of_ble_eq_true rfl) (Nat.le_of_ble_eq_true rfl) dL_refusal_16
  · refine C.catchV (name := "java/util/NoSuchElementException") (j := 3) (hp := 0) (ln := 1) (q := 13) mkX7_refusal mw_L_91 (ct_ex hc (by decide)) rfl (by decide) rfl (lt141 (by decide)) rx0 (Nat.le_of_ble_eq_true rfl) (Nat.le_of_ble_eq_true rfl) (Nat.le_of_ble_eq_true rfl) dL_refusal_4 [] ⟨0, 9, 12, 47⟩ [] rfl (fun z9 hz9 => absurd hz9 List.not_mem_nil) rfl (by decide) kw_L_47 cst_NSE (by decide) rfl (Or.inl ⟨3, rfl, rfl, dL_refusal_12⟩) rfl ?_
    refine K.iconst (q := 14) (v := 1) dL_refusal_13 rfl (by decide) ?_
    exact C.iret rfl rfl rfl rfl (Nat.le_of_ble_eq_true rfl) (Nat.le_of_ble_eq_true rfl) dL_refusal_14
theorem L_account {X Z Z' : GS} {e : String} {r : Int32} {z : Int32} {x0 : Int32} (hc : Ct 6 1 6 yX7_account (.code yX7_account cX7_account 2 (some (.int))) [.ref 0, .int x0] (mkH X) (rT e (some (.int r))) (mkH Z)) (he : (e = "" ∧ z = 0 ∧ Z' = uO Z (up Z.2.2.2.1 0 r.toInt64)) ∨ (e = "java/lang/IllegalArgumentException" ∧ z = 1 ∧ Z' = Z)) :
    Ct 9 2 12 yL_account (.codeWith yL_account cL_account 4 (some (.int)) [(0, 9, 12, 13)]) [.ref 0, .int x0, .ref 139] (mkH X) (.inl (some (.int z))) (mkH Z') := by
  refine Ct.ofH (LL := [some (.ref 0), some (.int x0), some (.ref 139), none]) mkL_account owL_account rfl (Nat.le_of_ble_eq_true rfl) rfl (fun Wk C => ?_)
  have K := C.core
  refine K.aload_n (q := 1) dL_account_0 rfl rfl ?_
  refine K.iconst (q := 2) (v := 0) dL_account_1 rfl (by decide) ?_
  refine K.aload_n (q := 3) dL_account_2 rfl rfl ?_
  refine K.iload_n (q := 4) dL_account_3 rfl rfl ?_
  rcases he with ⟨rfl, rfl, rfl⟩ | ⟨rfl, rfl, rfl⟩
  · refine K.callV (q := 7) mkX7_account mw_L_95 (ct_ok hc rfl) rfl (by decide) rfl (lt141 (by decide)) rx0 (Nat.le_of_ble_eq_true rfl) (Nat.le_of_ble_eq_true rfl) (Nat.le_of_ble_eq_true rfl) dL_account_4 rfl ?_
    refine K.i2l (q := 8) dL_account_7 rfl ?_
    refine K.las (q := 9) (m := 0) rx139 (lt141 (by decide)) rfl rfl (by decide) (by decide) wo139 dL_account_8 rfl ?_
    refine K.goto (tgt := 15) dL_account_9 (by decide) ?_
    refine K.iconst (q := 16) (v := 0) dL_account_15 rfl (by decide) ?_
    exact C.iret rfl rfl rfl rfl (Nat.le_of_ble_eq_true rfl) (Nat.le_of_ble_eq_true rfl) dL_account_16
  · refine C.catchV (name := "java/lang/IllegalArgumentException") (j := 3) (hp := 0) (ln := 1) (q := 13) mkX7_account mw_L_95 (ct_ex hc (by decide)) rfl (by decide) rfl (lt141 (by decide)) rx0 (Nat.le_of_ble_eq_true rfl) (Nat.le_of_ble_eq_true rfl) (Nat.le_of_ble_eq_true rfl) dL_account_4 [] ⟨0, 9, 12, 13⟩ [] rfl (fun z9 hz9 => absurd hz9 List.not_mem_nil) rfl (by decide) kw_L_13 cst_IAE (by decide) rfl (Or.inl ⟨3, rfl, rfl, dL_account_12⟩) rfl ?_
    refine K.iconst (q := 14) (v := 1) dL_account_13 rfl (by decide) ?_
    exact C.iret rfl rfl rfl rfl (Nat.le_of_ble_eq_true rfl) (Nat.le_of_ble_eq_true rfl) dL_account_14
theorem L_meanWaste {X Z Z' : GS} {e : String} {r : UInt64} {z : Int32} (hc : Ct 6 1 6 yX7_meanWaste (.code yX7_meanWaste cX7_meanWaste 2 (some (.double))) [.ref 0] (mkH X) (rT e (some (.double r))) (mkH Z)) (he : (e = "" ∧ z = 0 ∧ Z' = uD Z (up Z.2.2.2.2 0 r)) ∨ (e = "java/lang/ArithmeticException" ∧ z = 1 ∧ Z' = Z)) :
    Ct 9 2 12 yL_meanWaste (.codeWith yL_meanWaste cL_meanWaste 3 (some (.int)) [(0, 7, 10, 102)]) [.ref 0, .ref 140] (mkH X) (.inl (some (.int z))) (mkH Z') := by
  refine Ct.ofH (LL := [some (.ref 0), some (.ref 140), none]) mkL_meanWaste owL_meanWaste rfl (Nat.le_of_ble_eq_true rfl) rfl (fun Wk C => ?_)
  have K := C.core
  refine K.aload_n (q := 1) dL_meanWaste_0 rfl rfl ?_
  refine K.iconst (q := 2) (v := 0) dL_meanWaste_1 rfl (by decide) ?_
  refine K.aload_n (q := 3) dL_meanWaste_2 rfl rfl ?_
  rcases he with ⟨rfl, rfl, rfl⟩ | ⟨rfl, rfl, rfl⟩
  · refine K.callV (q := 6) mkX7_meanWaste mw_L_98 (ct_ok hc rfl) rfl (by decide) rfl (lt141 (by decide)) rx0 (Nat.le_of_ble_eq_true rfl) (Nat.le_of_ble_eq_true rfl) (Nat.le_of_ble_eq_true rfl) dL_meanWaste_3 rfl ?_
    refine K.das (q := 7) (m := 0) rx140 (lt141 (by decide)) rfl rfl (by decide) (by decide) wd140 dL_meanWaste_6 rfl ?_
    refine K.goto (tgt := 13) dL_meanWaste_7 (by decide) ?_
    refine K.iconst (q := 14) (v := 0) dL_meanWaste_13 rfl (by decide) ?_
    exact C.iret rfl rfl rfl rfl (Nat.le_of_ble_eq_true rfl) (Nat.le_of_ble_eq_true rfl) dL_meanWaste_14
  · refine C.catchV (name := "java/lang/ArithmeticException") (j := 2) (hp := 0) (ln := 1) (q := 11) mkX7_meanWaste mw_L_98 (ct_ex hc (by decide)) rfl (by decide) rfl (lt141 (by decide)) rx0 (Nat.le_of_ble_eq_true rfl) (Nat.le_of_ble_eq_true rfl) (Nat.le_of_ble_eq_true rfl) dL_meanWaste_3 [] ⟨0, 7, 10, 102⟩ [] rfl (fun z9 hz9 => absurd hz9 List.not_mem_nil) rfl (by decide) kw_L_102 cst_AE (by decide) rfl (Or.inl ⟨2, rfl, rfl, dL_meanWaste_10⟩) rfl ?_
    refine K.iconst (q := 12) (v := 1) dL_meanWaste_11 rfl (by decide) ?_
    exact C.iret rfl rfl rfl rfl (Nat.le_of_ble_eq_true rfl) (Nat.le_of_ble_eq_true rfl) dL_meanWaste_12
theorem L_undo {X Z Z' : GS} {e : String} {r : Int32} {z : Int32} (hc : Ct 6 1 6 yX7_undo (.code yX7_undo cX7_undo 1 (some (.int))) [.ref 0] (mkH X) (rT e (some (.int r))) (mkH Z)) (he : (e = "" ∧ z = 0 ∧ Z' = uO Z (up Z.2.2.2.1 0 r.toInt64)) ∨ (e = "java/lang/IllegalStateException" ∧ z = 1 ∧ Z' = Z)) :
    Ct 9 2 12 yL_undo (.codeWith yL_undo cL_undo 3 (some (.int)) [(0, 8, 11, 86)]) [.ref 0, .ref 139] (mkH X) (.inl (some (.int z))) (mkH Z') := by
  refine Ct.ofH (LL := [some (.ref 0), some (.ref 139), none]) mkL_undo owL_undo rfl (Nat.le_of_ble_eq_true rfl) rfl (fun Wk C => ?_)
  have K := C.core
  refine K.aload_n (q := 1) dL_undo_0 rfl rfl ?_
  refine K.iconst (q := 2) (v := 0) dL_undo_1 rfl (by decide) ?_
  refine K.aload_n (q := 3) dL_undo_2 rfl rfl ?_
  rcases he with ⟨rfl, rfl, rfl⟩ | ⟨rfl, rfl, rfl⟩
  · refine K.callV (q := 6) mkX7_undo mw_L_104 (ct_ok hc rfl) rfl (by decide) rfl (lt141 (by decide)) rx0 (Nat.le_of_ble_eq_true rfl) (Nat.le_of_ble_eq_true rfl) (Nat.le_of_ble_eq_true rfl) dL_undo_3 rfl ?_
    refine K.i2l (q := 7) dL_undo_6 rfl ?_
    refine K.las (q := 8) (m := 0) rx139 (lt141 (by decide)) rfl rfl (by decide) (by decide) wo139 dL_undo_7 rfl ?_
    refine K.goto (tgt := 14) dL_undo_8 (by decide) ?_
    refine K.iconst (q := 15) (v := 0) dL_undo_14 rfl (by decide) ?_
    exact C.iret rfl rfl rfl rfl (Nat.le_of_ble_eq_true rfl) (Nat.le_of_ble_eq_true rfl) dL_undo_15
  · refine C.catchV (name := "java/lang/IllegalStateException") (j := 2) (hp := 0) (ln := 1) (q := 12) mkX7_undo mw_L_104 (ct_ex hc (by decide)) rfl (by decide) rfl (lt141 (by decide)) rx0 (Nat.le_of_ble_eq_true rfl) (Nat.le_of_ble_eq_true rfl) (Nat.le_of_ble_eq_true rfl) dL_undo_3 [] ⟨0, 8, 11, 86⟩ [] rfl (fun z9 hz9 => absurd hz9 List.not_mem_nil) rfl (by decide) kw_L_86 cst_ISE (by decide) rfl (Or.inl ⟨2, rfl, rfl, dL_undo_11⟩) rfl ?_
    refine K.iconst (q := 13) (v := 1) dL_undo_12 rfl (by decide) ?_
    exact C.iret rfl rfl rfl rfl (Nat.le_of_ble_eq_true rfl) (Nat.le_of_ble_eq_true rfl) dL_undo_13
theorem L_restore {X Z Z' : GS} {e : String} {r : Int32} {z : Int32} (hc : Ct 6 1 6 yX7_restore (.code yX7_restore cX7_restore 1 (some (.int))) [.ref 0] (mkH X) (rT e (some (.int r))) (mkH Z)) (he : (e = "" ∧ z = 0 ∧ Z' = uO Z (up Z.2.2.2.1 0 r.toInt64)) ∨ (e = "java/lang/IllegalStateException" ∧ z = 1 ∧ Z' = Z)) :
    Ct 9 2 12 yL_restore (.codeWith yL_restore cL_restore 3 (some (.int)) [(0, 8, 11, 86)]) [.ref 0, .ref 139] (mkH X) (.inl (some (.int z))) (mkH Z') := by
  refine Ct.ofH (LL := [some (.ref 0), some (.ref 139), none]) mkL_restore owL_restore rfl (Nat.le_of_ble_eq_true rfl) rfl (fun Wk C => ?_)
  have K := C.core
  refine K.aload_n (q := 1) dL_restore_0 rfl rfl ?_
  refine K.iconst (q := 2) (v := 0) dL_restore_1 rfl (by decide) ?_
  refine K.aload_n (q := 3) dL_restore_2 rfl rfl ?_
  rcases he with ⟨rfl, rfl, rfl⟩ | ⟨rfl, rfl, rfl⟩
  · refine K.callV (q := 6) mkX7_restore mw_L_107 (ct_ok hc rfl) rfl (by decide) rfl (lt141 (by decide)) rx0 (Nat.le_of_ble_eq_true rfl) (Nat.le_of_ble_eq_true rfl) (Nat.le_of_ble_eq_true rfl) dL_restore_3 rfl ?_
    refine K.i2l (q := 7) dL_restore_6 rfl ?_
    refine K.las (q := 8) (m := 0) rx139 (lt141 (by decide)) rfl rfl (by decide) (by decide) wo139 dL_restore_7 rfl ?_
    refine K.goto (tgt := 14) dL_restore_8 (by decide) ?_
    refine K.iconst (q := 15) (v := 0) dL_restore_14 rfl (by decide) ?_
    exact C.iret rfl rfl rfl rfl (Nat.le_of_ble_eq_true rfl) (Nat.le_of_ble_eq_true rfl) dL_restore_15
  · refine C.catchV (name := "java/lang/IllegalStateException") (j := 2) (hp := 0) (ln := 1) (q := 12) mkX7_restore mw_L_107 (ct_ex hc (by decide)) rfl (by decide) rfl (lt141 (by decide)) rx0 (Nat.le_of_ble_eq_true rfl) (Nat.le_of_ble_eq_true rfl) (Nat.le_of_ble_eq_true rfl) dL_restore_3 [] ⟨0, 8, 11, 86⟩ [] rfl (fun z9 hz9 => absurd hz9 List.not_mem_nil) rfl (by decide) kw_L_86 cst_ISE (by decide) rfl (Or.inl ⟨2, rfl, rfl, dL_restore_11⟩) rfl ?_
    refine K.iconst (q := 13) (v := 1) dL_restore_12 rfl (by decide) ?_
    exact C.iret rfl rfl rfl rfl (Nat.le_of_ble_eq_true rfl) (Nat.le_of_ble_eq_true rfl) dL_restore_13
