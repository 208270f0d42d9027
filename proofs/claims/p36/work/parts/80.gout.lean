/-! ===== p36: contracts over things outside (the script, a text) ===== -/
abbrev PrT : Type := Nat × Nat → State → Prop
/-- what is known of things outside: it holds as long as they are left alone -/
def prOk (Pr : PrT) : Prop := ∀ (g : Nat × Nat) (U U' : State), Pr g U → U.vm.Alike U'.vm → (∀ q : Nat, q < U.heap.size → ¬ aD g q → U'.heap[q]? = U.heap[q]?) → Pr g U'
/-- a contract that asks Pr of what is outside -/
def CtG (Pr : PrT) (d mc ms : Nat) (y : MethodName) (w : Cond) (av : List Value) (H : aH) (r : rR) (H' : aH) : Prop :=
  ∀ (l : Launch) (sL : State) (g : Nat × Nat) (D : va_G) (ca : Nat → ClassId), Gl l sL g D ca → vx_Met l y [w] (rmD d mc ms) (fun a U => pC sL g ca D av H a U ∧ Pr g U) (qR g ca D r H') (qX g ca D r H') mc ms (aD g)
def CoG (Pr : PrT) (own : String) (cc : ByteArray) (nL d kc ks : Nat) (Wk : tW) : Prop :=
  ∃ (p : Program) (l : Launch) (e : Env) (R : Room) (s : State) (m : MethodId) (args : Array Value) (below : List Frame) (meth : Method) (c : Code) (Q : State → Prop) (g : Nat × Nat) (ca : Nat → ClassId) (D : va_G) (sL : State),
    Cx p l R s m meth c g ca D sL own cc nL d kc ks ∧ Pr g s ∧ Wk = vW p l e R s m args below meth c Q g ca D nL
def OkG (Pr : PrT) (own : String) (cc : ByteArray) (nL d kc ks : Nat) (ret : Option FieldType) (r : rR) (H' : aH) (Wk : tW) : Prop :=
  ∃ (p : Program) (l : Launch) (e : Env) (R : Room) (s : State) (m : MethodId) (args : Array Value) (below : List Frame) (meth : Method) (c : Code) (g : Nat × Nat) (ca : Nat → ClassId) (D : va_G) (sL : State),
    Cx p l R s m meth c g ca D sL own cc nL d kc ks ∧ Pr g s ∧ c.exceptionTable.toList = tableOf [] ∧ meth.sig.returnType = ret ∧ Wk = vW p l e R s m args below meth c (vx_MQ below (qR g ca D r H') (qX g ca D r H') args s kc ks (aD g)) g ca D nL
section
variable {Pr : PrT} {own : String} {cc : ByteArray} {nL d kc ks : Nat} {Wk : tW} {k n pc q : Nat} {L : List (Option Value)} {S St : List Value} {H H' H2 : aH} {ret : Option FieldType} {r : rR}
theorem CoG.core (C : CoG Pr own cc nL d kc ks Wk) : Core own cc nL d kc ks Wk := by
  obtain ⟨p, l, e, R, s, m, args, below, meth, c, Q, g, ca, D, sL, X, -, rfl⟩ := C
  exact ⟨p, l, e, R, s, m, args, below, meth, c, Q, g, ca, D, sL, X, rfl⟩
theorem OkG.cog (C : OkG Pr own cc nL d kc ks ret r H' Wk) : CoG Pr own cc nL d kc ks Wk := by
  obtain ⟨p, l, e, R, s, m, args, below, meth, c, g, ca, D, sL, X, hP, -, -, rfl⟩ := C
  exact ⟨p, l, e, R, s, m, args, below, meth, c, _, g, ca, D, sL, X, hP, rfl⟩
theorem OkG.okm (C : OkG Pr own cc nL d kc ks ret r H' Wk) : OkM own cc nL d kc ks ret [] false r H' Wk := by
  obtain ⟨p, l, e, R, s, m, args, below, meth, c, g, ca, D, sL, X, -, ht, hr, rfl⟩ := C
  exact ⟨p, l, e, R, s, m, args, below, meth, c, g, ca, D, sL, X, ht, hr, (fun h => by cases h), rfl⟩
theorem prOk.blind (hP : prOk Pr) {sL : State} {g : Nat × Nat} {ca : Nat → ClassId} {D : va_G} {av : List Value} : FrameBlind (fun a U => pC sL g ca D av H a U ∧ Pr g U) :=
  fun a U f mk h => ⟨pC_blind a U f mk h.1, hP g U _ h.2 (Vm.Alike.refl _) (fun _ _ _ => rfl)⟩
theorem CtG.of {y : MethodName} {cb : ByteArray} {mc ms na : Nat} {av : List Value} {LL : List (Option Value)} (hm : MOk y na) (ho : wok (.code y cb nL ret)) (hcat : av.all (fun v => v.category == 1) = true) (hlen : av.length ≤ nL) (hL : av.map some ++ List.replicate (nL - av.length) none = LL)
    (body : ∀ Wk : tW, OkG Pr y.cls cb nL d mc ms ret r H' Wk → Wk 0 0 0 LL [] H) : CtG Pr d mc ms y (.code y cb nL ret) av H r H' := by
  intro l sL g D ca hG
  refine vx_ofW hm.2.2.1 rfl ?_
  intro p e s m args below meth c s₁ B hml htab hP
  obtain ⟨⟨rfl, hW, hz, hlow, hwd⟩, hPr⟩ := hP
  have hown : s.vm.findClass y.cls = some m.cls := findClass_of_methodNamed B.named
  have X : Cx p l (rmD d mc ms) s m meth c g ca D sL y.cls cb nL d mc ms := ⟨hG, hW, hz, hlow, B.exec, B.bytes, hml, hown, B.notSynchronized, Nat.le_refl _, Nat.le_refl _, Nat.le_refl _, Nat.le_refl _⟩
  have ht : c.exceptionTable.toList = tableOf [] := by
    cases h : c.exceptionTable.toList with
    | nil => rfl
    | cons a t => exact (htab a (by rw [h]; exact List.mem_cons_self)).elim
  have h := body (vW p l e (rmD d mc ms) s m (av.map (rv g)).toArray below meth c (vx_MQ below (qR g ca D r H') (qX g ca D r H') (av.map (rv g)).toArray s mc ms (aD g)) g ca D nL) ⟨p, l, e, rmD d mc ms, s, m, (av.map (rv g)).toArray, below, meth, c, g, ca, D, sL, X, hPr, ht, B.returns, rfl⟩
  show W p l e (rmD d mc ms) s m _ below meth c s.heap [] 0 0 _ (entryFrame m (av.map (rv g)).toArray nL)
  rw [lg_entry_eq]
  exact h s.heap [] _ hwd va_S.rf (entry_lH hcat hlen hL)
end
section
variable {Pr : PrT} {p : Program} {l : Launch} {e : Env} {R : Room} {s : State} {m : MethodId} {args : Array Value} {below : List Frame} {meth : Method} {c : Code} {Q : State → Prop} {g : Nat × Nat} {ca : Nat → ClassId} {D : va_G} {sL : State} {own : String} {cc : ByteArray} {nL d kc ks : Nat}
theorem Cx.preG (X : Cx p l R s m meth c g ca D sL own cc nL d kc ks) (hok : prOk Pr) (hPr : Pr g s) {H : aH} {Hr : Heap} {locs : List Loc} {av : List Value} (hN : wld g ca D H Hr) (hS : va_S (aD g) s.heap Hr locs) : PreS s Hr (fun a U => pC sL g ca D av H a U ∧ Pr g U) (av.map (rv g)) := by
  have h0 := X.preS (av := av) hN hS
  refine ⟨hok.blind, fun U hU hW => ⟨h0.2 U hU hW, hok g s U hPr hW.alike (fun q hq hA => by rw [hU]; exact hS.2.1 q hq hA)⟩⟩
theorem Cx.runVo (X : Cx p l R s m meth c g ca D sL own cc nL d kc ks) (hok : prOk Pr) (hPr : Pr g s) {y : MethodName} {cb : ByteArray} {mL na idx d' mc ms a k n pc : Nat} {rt : Option FieldType} {av S : List Value} {H H' : aH} {r : rR} {Hr : Heap} {locs : List Loc} {ls : Array Slot} {L : List (Option Value)}
    (hm : MOk y na) (ho : wok (.code y cb mL rt)) (hv : wok (.instanceMethod y)) (hsl : wok (.selects y.cls y y)) (hw : wok (.methodLink own idx y)) (hc : CtG Pr d' mc ms y (.code y cb mL rt) (.ref (a + 1000) :: av) H r H') (hd : d' + 1 ≤ d) (hmL : mL ≤ 45) (hna : av.length = na)
    (hO : va_O y.cls a (aD g) s s.heap) (hsum : (S.map fun v => v.category).sum ≤ 8) (hk : k + mc ≤ kc) (hn : n + ms ≤ ks) (dg : decode cc pc = .ok (.invokevirtual idx, 3)) (hN : wld g ca D H Hr) (hS : va_S (aD g) s.heap Hr locs) (hl : lH g ls nL L) :
    vx_Run p l e R s m args below meth c Hr locs k n mc ms (F0 m pc ls ((av.reverse ++ .ref (a + 1000) :: S).map (rv g))) (S.map (rv g)) (qR g ca D r H' ((Value.ref (a + 1000) :: av).map (rv g)).toArray) (qX g ca D r H') (aD g) := by
  have hP := X.preG hok hPr (av := .ref (a + 1000) :: av) hN hS
  have hrv : ∃ cell : Cell, Hr[ra g (a + 1000)]? = some cell ∧ cell.vm.isStatics = false ∧ s.vm.findClass y.cls = some cell.cls := by
    obtain ⟨cell, h1, h2, h3, -⟩ := hO.kept hS.2.1
    exact ⟨cell, by rw [ra_out]; exact h1, h2, h3⟩
  exact vx_runV (b := ra g (a + 1000)) (As := av.map (rv g)) (rest := S.map (rv g)) (own := own) (Ts := []) ⟨X.exec, X.code, X.max, X.ow, fun _ h => nomatch h⟩ (hc l sL g D ca X.gl) ⟨X.callB hm ho hw hd hmL, X.word hv args, X.word hsl args⟩ ⟨hP.1, hrv, hP.2⟩ rfl (by rw [List.length_map]; exact hna) hl.1
    (by show (av.reverse ++ .ref (a + 1000) :: S).map (rv g) = _; rw [List.map_append, List.map_reverse]; rfl) (lv_room (by rw [sum_rv]; exact hsum)) dg ⟨Nat.le_trans hk X.cells, Nat.le_trans hn X.slots⟩
theorem Cx.runSG (X : Cx p l R s m meth c g ca D sL own cc nL d kc ks) (hok : prOk Pr) (hPr : Pr g s) {y : MethodName} {cb : ByteArray} {mL na idx d' mc ms k n pc : Nat} {rt : Option FieldType} {av S : List Value} {H H' : aH} {r : rR} {Hr : Heap} {locs : List Loc} {ls : Array Slot} {L : List (Option Value)}
    (hm : MOk y na) (ho : wok (.code y cb mL rt)) (hv : wok (.static y)) (hw : wok (.methodLink own idx y)) (hc : CtG Pr d' mc ms y (.code y cb mL rt) av H r H') (hd : d' + 1 ≤ d) (hmL : mL ≤ 45) (hna : av.length = na)
    (hsum : (S.map fun v => v.category).sum ≤ 8) (hk : k + mc ≤ kc) (hn : n + ms ≤ ks) (dg : decode cc pc = .ok (.invokestatic idx, 3)) (hN : wld g ca D H Hr) (hS : va_S (aD g) s.heap Hr locs) (hl : lH g ls nL L) :
    vx_Run p l e R s m args below meth c Hr locs k n mc ms (F0 m pc ls ((av.reverse ++ S).map (rv g))) (S.map (rv g)) (qR g ca D r H' (av.map (rv g)).toArray) (qX g ca D r H') (aD g) := by
  exact vx_runS (As := av.map (rv g)) (rest := S.map (rv g)) (own := own) (Ts := []) ⟨X.exec, X.code, X.max, X.ow, fun _ h => nomatch h⟩ (hc l sL g D ca X.gl) ⟨X.callB hm ho hw hd hmL, X.word hv args⟩ (X.preG hok hPr hN hS) rfl (by rw [List.length_map]; exact hna) hl.1
    (by show (av.reverse ++ S).map (rv g) = _; rw [List.map_append, List.map_reverse]) (lv_room (by rw [sum_rv]; exact hsum)) dg ⟨Nat.le_trans hk X.cells, Nat.le_trans hn X.slots⟩
end
section
variable {Pr : PrT} {own : String} {cc : ByteArray} {nL d kc ks : Nat} {Wk : tW} {k n pc q : Nat} {L : List (Option Value)} {S St : List Value} {H H' H2 : aH} {ret : Option FieldType} {r : rR}
variable {y : MethodName} {cb : ByteArray} {mL na idx d' mc ms a ci : Nat} {rt : Option FieldType} {av : List Value}
/-- a virtual call of something outside, which costs nothing -/
theorem CoG.callVo {w : Value} (C : CoG Pr own cc nL d kc ks Wk) (hok : prOk Pr) (hO : ∀ g s, Pr g s → va_O y.cls a (aD g) s s.heap) (hm : VM y cb mL rt na ci) (hw : wok (.methodLink own idx y)) (hc : CtG Pr d' 0 0 y (.code y cb mL rt) (.ref (a + 1000) :: av) H (.inl (some w)) H') (hst : St = av.reverse ++ .ref (a + 1000) :: S) (hd : d' + 1 ≤ d) (hna : av.length = na) (hsum : (S.map fun v => v.category).sum ≤ 8) (hk : k ≤ kc) (hn : n ≤ ks) (dg : decode cc pc = .ok (.invokevirtual idx, 3)) (hq : pc + 3 = q)
    (kk : Wk k n q L (w :: S) H') : Wk k n pc L St H := by
  obtain ⟨p, l, e, R, s, m, args, below, meth, c, Q, g, ca, D, sL, X, hPr, rfl⟩ := C
  subst hq; subst hst
  intro Hr locs ls hN hS hl
  obtain ⟨h1, h2, h3, h4, h5, T, N, h6⟩ := hm
  exact run_done (X.runVo hok hPr h1 h2 h3 h4 hw hc hd h5 hna (hO g s hPr) hsum hk hn dg hN hS hl) hS (fun H1 locs1 hw1 hS1 => kk H1 locs1 ls hw1 hS1 hl)
theorem CoG.callS {w : Value} (C : CoG Pr own cc nL d kc ks Wk) (hok : prOk Pr) (hm : SM y cb mL rt na) (hw : wok (.methodLink own idx y)) (hc : CtG Pr d' mc ms y (.code y cb mL rt) av H (.inl (some w)) H') (hst : St = av.reverse ++ S) (hd : d' + 1 ≤ d) (hna : av.length = na) (hsum : (S.map fun v => v.category).sum ≤ 8) (hk : k + mc ≤ kc) (hn : n + ms ≤ ks) (dg : decode cc pc = .ok (.invokestatic idx, 3)) (hq : pc + 3 = q)
    (kk : Wk (k + mc) (n + ms) q L (w :: S) H') : Wk k n pc L St H := by
  obtain ⟨p, l, e, R, s, m, args, below, meth, c, Q, g, ca, D, sL, X, hPr, rfl⟩ := C
  subst hq; subst hst
  intro Hr locs ls hN hS hl
  obtain ⟨h1, h2, h3, h5⟩ := hm
  exact run_done (X.runSG hok hPr h1 h2 h3 hw hc hd h5 hna hsum hk hn dg hN hS hl) hS (fun H1 locs1 hw1 hS1 => kk H1 locs1 ls hw1 hS1 hl)
theorem CoG.callSv (C : CoG Pr own cc nL d kc ks Wk) (hok : prOk Pr) (hm : SM y cb mL rt na) (hw : wok (.methodLink own idx y)) (hc : CtG Pr d' mc ms y (.code y cb mL rt) av H (.inl none) H') (hst : St = av.reverse ++ S) (hd : d' + 1 ≤ d) (hna : av.length = na) (hsum : (S.map fun v => v.category).sum ≤ 8) (hk : k + mc ≤ kc) (hn : n + ms ≤ ks) (dg : decode cc pc = .ok (.invokestatic idx, 3)) (hq : pc + 3 = q)
    (kk : Wk (k + mc) (n + ms) q L S H') : Wk k n pc L St H := by
  obtain ⟨p, l, e, R, s, m, args, below, meth, c, Q, g, ca, D, sL, X, hPr, rfl⟩ := C
  subst hq; subst hst
  intro Hr locs ls hN hS hl
  obtain ⟨h1, h2, h3, h5⟩ := hm
  exact run_done (X.runSG hok hPr h1 h2 h3 hw hc hd h5 hna hsum hk hn dg hN hS hl) hS (fun H1 locs1 hw1 hS1 => kk H1 locs1 ls hw1 hS1 hl)
end
section
variable {own : String} {cc : ByteArray} {nL d kc ks : Nat} {Wk : tW} {k n pc q : Nat} {L : List (Option Value)} {S : List Value} {H : aH}
theorem Core.ishr (C : Core own cc nL d kc ks Wk) {x y : Int32} (dg : decode cc pc = .ok (.ishr, 1)) (hq : pc + 1 = q) (kk : Wk k n q L (.int (x >>> (y &&& 31)) :: S) H) : Wk k n pc L (.int y :: .int x :: S) H := by
  obtain ⟨p, l, e, R, s, m, args, below, meth, c, Q, g, ca, D, sL, X, rfl⟩ := C
  subst hq
  intro Hr locs ls hN hS hl
  exact lv_ishr X.exec X.code dg (kk Hr locs ls hN hS hl)
end
/-! the script outside -/
def PrX (Ln : Nat) (xs : Nat → Int32) (b : Nat) : PrT := fun g U => va_X b Ln xs U U.heap ∧ b < U.heap.size ∧ ¬ aD g b
theorem prX_ok {Ln : Nat} {xs : Nat → Int32} {b : Nat} : prOk (PrX Ln xs b) := by
  intro g U U' h hal hk
  obtain ⟨⟨scr, h1, h2, h3, h4, h5⟩, hb, hA⟩ := h
  have e := hk b hb hA
  refine ⟨⟨scr, e.trans h1, State.isArrayOf_alike hal h2, h3, h4, h5⟩, ?_, hA⟩
  rw [h1] at e
  exact (Array.getElem?_eq_some_iff.mp e).1
section
variable {own : String} {cc : ByteArray} {nL d kc ks : Nat} {Wk : tW} {k n pc q Ln b : Nat} {xs : Nat → Int32} {L : List (Option Value)} {S : List Value} {H : aH}
theorem CoG.sld (C : CoG (PrX Ln xs b) own cc nL d kc ks Wk) {j : Nat} (hm : j < Ln) (hL31 : Ln < 2147483648) (dg : decode cc pc = .ok (.iaload, 1)) (hq : pc + 1 = q) (kk : Wk k n q L (.int (xs j) :: S) H) : Wk k n pc L (.int (nI j) :: .ref (b + 1000) :: S) H := by
  obtain ⟨p, l, e, R, s, m, args, below, meth, c, Q, g, ca, D, sL, X, hPr, rfl⟩ := C
  subst hq
  intro Hr locs ls hN hS hl
  show W _ _ _ _ _ _ _ _ _ _ _ _ _ _ _ (F0 m pc ls (.int (nI j) :: .ref (ra g (b + 1000)) :: S.map (rv g)))
  rw [ra_out]
  refine va_sld (i := nI j) X.exec X.code hPr.1 hPr.2.1 hPr.2.2 hS (vp_in_nI hm hL31) dg ?_
  rw [nI_clamp (by omega)]
  exact kk Hr locs ls hN hS hl
theorem CoG.slen (C : CoG (PrX Ln xs b) own cc nL d kc ks Wk) (dg : decode cc pc = .ok (.arraylength, 1)) (hq : pc + 1 = q) (kk : Wk k n q L (.int (Int32.ofNat Ln) :: S) H) : Wk k n pc L (.ref (b + 1000) :: S) H := by
  obtain ⟨p, l, e, R, s, m, args, below, meth, c, Q, g, ca, D, sL, X, hPr, rfl⟩ := C
  subst hq
  intro Hr locs ls hN hS hl
  show W _ _ _ _ _ _ _ _ _ _ _ _ _ _ _ (F0 m pc ls (.ref (ra g (b + 1000)) :: S.map (rv g)))
  rw [ra_out]
  exact va_slen X.exec X.code hPr.1 hPr.2.1 hPr.2.2 hS dg (kk Hr locs ls hN hS hl)
end
