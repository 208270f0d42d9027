/-! ===== THE LAYER, 3: contracts, calls, ends ===== -/
abbrev rR : Type := Option Value ⊕ String
def qR (g : Nat × Nat) (ca : Nat → ClassId) (D : va_G) (r : rR) (H' : aH) : Array Value → State → Outcome → State → Prop := fun _ st o t => ∃ v : Option Value, r = .inl v ∧ o = .returned (v.map (rv g)) ∧ wld g ca D H' t.heap ∧ va_F (aD g) st t
def qX (g : Nat × Nat) (ca : Nat → ClassId) (D : va_G) (r : rR) (H' : aH) : String → State → State → Prop := fun E st t => r = .inr E ∧ wld g ca D H' t.heap ∧ va_F (aD g) st t
def pC (sL : State) (g : Nat × Nat) (ca : Nat → ClassId) (D : va_G) (av : List Value) (H : aH) : Array Value → State → Prop := fun a U => a = (av.map (rv g)).toArray ∧ sL.WarmedH U.vm ∧ hz g U.heap.size ∧ (∀ q : Nat, q < sL.heap.size → U.heap[q]? = sL.heap[q]?) ∧ wld g ca D H U.heap
def rmD (d mc ms : Nat) : Room := { frames := d, cells := mc, slots := ms, locals := 64 * d }
/-- from the arguments av and the heap H, method y (its word w) comes to r and H' -/
def Ct (d mc ms : Nat) (y : MethodName) (w : Cond) (av : List Value) (H : aH) (r : rR) (H' : aH) : Prop :=
  ∀ (l : Launch) (sL : State) (g : Nat × Nat) (D : va_G) (ca : Nat → ClassId), Gl l sL g D ca → vx_Met l y [w] (rmD d mc ms) (pC sL g ca D av H) (qR g ca D r H') (qX g ca D r H') mc ms (aD g)
def MOk (y : MethodName) (n : Nat) : Prop := wok (.initialized y.cls) ∧ (y.cls ≠ "java/lang/invoke/MethodHandle" ∧ y.cls ≠ "java/lang/invoke/VarHandle") ∧ plainName y.cls = true ∧ (parseMethodDescriptor y.desc).map (fun d => d.parameters.length) = some n
/-- the body of a method that owes the end r, H' -/
def OkM (own : String) (cc : ByteArray) (nL d kc ks : Nat) (ret : Option FieldType) (tab : List (Nat × Nat × Nat × Nat)) (ini : Bool) (r : rR) (H' : aH) (Wk : tW) : Prop :=
  ∃ (p : Program) (l : Launch) (e : Env) (R : Room) (s : State) (m : MethodId) (args : Array Value) (below : List Frame) (meth : Method) (c : Code) (g : Nat × Nat) (ca : Nat → ClassId) (D : va_G) (sL : State),
    Cx p l R s m meth c g ca D sL own cc nL d kc ks ∧ c.exceptionTable.toList = tableOf tab ∧ meth.sig.returnType = ret ∧ (ini = true → meth.name = "<init>") ∧ Wk = vW p l e R s m args below meth c (vx_MQ below (qR g ca D r H') (qX g ca D r H') args s kc ks (aD g)) g ca D nL
section
variable {own : String} {cc : ByteArray} {nL d kc ks : Nat} {Wk : tW} {k n pc q : Nat} {L : List (Option Value)} {S St : List Value} {H H' H2 : aH} {ret : Option FieldType} {tab : List (Nat × Nat × Nat × Nat)} {ini : Bool} {r : rR}
theorem OkM.core (C : OkM own cc nL d kc ks ret tab ini r H' Wk) : Core own cc nL d kc ks Wk := by
  obtain ⟨p, l, e, R, s, m, args, below, meth, c, g, ca, D, sL, X, -, -, -, rfl⟩ := C
  exact ⟨p, l, e, R, s, m, args, below, meth, c, _, g, ca, D, sL, X, rfl⟩
theorem OkM.iret (C : OkM own cc nL d kc ks ret tab ini r H' Wk) {v : Int32} {ty : FieldType} (hr : ret = some ty) (hn : narrow ty (.int v) = .int v) (hv : r = .inl (some (.int v))) (hH : H = H') (hk : k ≤ kc) (hs : n ≤ ks) (dg : decode cc pc = .ok (.ireturn, 1)) : Wk k n pc L [.int v] H := by
  obtain ⟨p, l, e, R, s, m, args, below, meth, c, g, ca, D, sL, X, -, hret, -, rfl⟩ := C
  subst hv; subst hH
  intro Hr locs ls hN hS hl
  refine W.widen hk hs ?_
  exact vx_ret (W.zret X.exec X.code (hret.trans hr) hn (fun t ht _ => ⟨_, rfl, rfl, by rw [ht]; exact hN, hS.F ht⟩) hS.2.2 dg X.locks)
theorem OkM.vret (C : OkM own cc nL d kc ks ret tab ini r H' Wk) (hr : ret = none) (hv : r = .inl none) (hH : H = H') (hk : k ≤ kc) (hs : n ≤ ks) (dg : decode cc pc = .ok (.return_, 1)) : Wk k n pc L [] H := by
  obtain ⟨p, l, e, R, s, m, args, below, meth, c, g, ca, D, sL, X, -, hret, -, rfl⟩ := C
  subst hv; subst hH
  intro Hr locs ls hN hS hl
  refine W.widen hk hs ?_
  exact vx_ret (W.vret X.exec X.code (hret.trans hr) (fun t ht _ => ⟨_, rfl, rfl, by rw [ht]; exact hN, hS.F ht⟩) hS.2.2 dg X.locks)
theorem OkM.aret (C : OkM own cc nL d kc ks ret tab ini r H' Wk) {v : Value} {nm : String} (hr : ret = some (.object nm)) (hvv : v = .null ∨ ∃ a, v = .ref a) (hv : r = .inl (some v)) (hH : H = H') (hk : k ≤ kc) (hs : n ≤ ks) (dg : decode cc pc = .ok (.areturn, 1)) : Wk k n pc L [v] H := by
  obtain ⟨p, l, e, R, s, m, args, below, meth, c, g, ca, D, sL, X, -, hret, -, rfl⟩ := C
  subst hv; subst hH
  intro Hr locs ls hN hS hl
  refine W.widen hk hs ?_
  refine vx_ret (W.aret (v := rv g v) X.exec X.code (hret.trans hr) (Or.inl ⟨_, rfl⟩) ?_ (fun t ht _ => ⟨_, rfl, rfl, by rw [ht]; exact hN, hS.F ht⟩) hS.2.2 dg X.locks)
  rcases hvv with rfl | ⟨a, rfl⟩
  · exact Or.inl rfl
  · exact Or.inr ⟨_, rfl⟩
theorem OkM.dret (C : OkM own cc nL d kc ks ret tab ini r H' Wk) {v : UInt64} (hr : ret = some .double) (hv : r = .inl (some (.double v))) (hH : H = H') (hk : k ≤ kc) (hs : n ≤ ks) (dg : decode cc pc = .ok (.dreturn, 1)) : Wk k n pc L [.double v] H := by
  obtain ⟨p, l, e, R, s, m, args, below, meth, c, g, ca, D, sL, X, -, hret, -, rfl⟩ := C
  subst hv; subst hH
  intro Hr locs ls hN hS hl
  refine W.widen hk hs ?_
  have hlk := X.locks
  exact vx_ret (W.dret X.exec X.code (hret.trans hr) (fun t ht _ => ⟨_, rfl, rfl, by rw [ht]; exact hN, hS.F ht⟩) hS.2.2 dg)
theorem OkM.fret (C : OkM own cc nL d kc ks ret tab ini r H' Wk) {v : UInt32} (hr : ret = some .float) (hv : r = .inl (some (.float v))) (hH : H = H') (hk : k ≤ kc) (hs : n ≤ ks) (dg : decode cc pc = .ok (.freturn, 1)) : Wk k n pc L [.float v] H := by
  obtain ⟨p, l, e, R, s, m, args, below, meth, c, g, ca, D, sL, X, -, hret, -, rfl⟩ := C
  subst hv; subst hH
  intro Hr locs ls hN hS hl
  refine W.widen hk hs ?_
  have hlk := X.locks
  exact vx_ret (W.fret X.exec X.code (hret.trans hr) (fun t ht _ => ⟨_, rfl, rfl, by rw [ht]; exact hN, hS.F ht⟩) hS.2.2 dg)
/-- a final field, in its constructor -/
theorem OkM.putF (C : OkM own cc nL d kc ks ret tab true r H2 Wk) {idx ci j i : Nat} {ty : FieldType} {fs : List Value} {v : Value} (hF : FOk own idx ci j ty true) (hH : H.2.2 i = .inr (ci, fs)) (hi : i < H.2.1) (hl0 : j < fs.length)
    (hn : ∀ g, narrow ty (rv g v) = rv g v) (hf : ∀ g, fits ty (rv g v) = true) (hs : sH H i (.inr (ci, fs.set j v)) = H')
    (dg : decode cc pc = .ok (.putfield idx, 3)) (hq : pc + 3 = q) (kk : Wk k n q L S H') : Wk k n pc L (v :: .ref i :: S) H := by
  obtain ⟨p, l, e, R, s, m, args, below, meth, c, g, ca, D, sL, X, -, -, hini, rfl⟩ := C
  subst hq
  intro Hr locs ls hN hS hl
  obtain ⟨C0, T, N, ty0, h1, h2, h3, h4, h5, h6, h7, h8, h9⟩ := hF
  have e1 : rv g (.ref i) = .ref (g.1 + i) := by show Value.ref (ra g i) = _; rw [ra_lt (Nat.lt_of_lt_of_le hi hN.1)]
  show W _ _ _ _ _ _ _ _ _ _ _ _ _ _ _ (F0 m pc ls (rv g v :: rv g (.ref i) :: S.map (rv g)))
  rw [e1]
  have hws : (rW g ca H.2.1 H.2.2)[i]? = some (g.1 + i, .inr (ci, fs.map (rv g))) := by rw [rW_get hi, hH]; rfl
  exact zz_put X.exec X.code (own := own) (fun w hw => X.word ⟨h2 w hw, u_good hw⟩ args) ty0 h3 h4 X.ow X.K hN.2.1 (rW_D hN.1) hS i (fs := fs.map (rv g)) hws h1 j h5 (X.word h6 args) (Or.inr ⟨h7, hini rfl, h9 rfl⟩) (by rw [h8]; exact hn g) (by rw [h8]; exact hf g) (by rw [List.length_map]; exact hl0) dg
    (fun H1 locs1 hz hP1 hS1 => kk H1 locs1 ls (wld_set hN hi hs rfl (by rw [← List.map_set]; rfl) hP1 hz) hS1 hl)
end
/-! the runs -/
section
variable {p : Program} {l : Launch} {e : Env} {R : Room} {s : State} {m : MethodId} {args : Array Value} {below : List Frame} {meth : Method} {c : Code} {Q : State → Prop} {g : Nat × Nat} {ca : Nat → ClassId} {D : va_G} {sL : State} {own : String} {cc : ByteArray} {nL d kc ks : Nat}
theorem pC_blind {sL : State} {av : List Value} {H : aH} : FrameBlind (pC sL g ca D av H) := fun _ _ _ _ h => h
theorem Cx.preS (X : Cx p l R s m meth c g ca D sL own cc nL d kc ks) {H : aH} {Hr : Heap} {locs : List Loc} {av : List Value} (hN : wld g ca D H Hr) (hS : va_S (aD g) s.heap Hr locs) : PreS s Hr (pC sL g ca D av H) (av.map (rv g)) := by
  refine ⟨pC_blind, fun U hU hW => ⟨rfl, X.warm.trans hW, ?_, fun q hq => ?_, by rw [hU]; exact hN⟩⟩
  · rw [hU]; exact ⟨Nat.le_trans X.2.2.1.1 hS.1, Nat.le_trans X.2.2.1.2 hS.1⟩
  · rw [hU, hS.2.1 q (Nat.lt_of_lt_of_le hq (Nat.le_trans X.1.2.2.1 X.2.2.1.1)) (fun h => by have h9 : g.1 ≤ q := h.1; have := X.1.2.2.1; omega)]
    exact X.2.2.2.1 q hq
theorem wok_keep {s : State} {args : Array Value} {w : Cond} (hg : goodWord w = true) (h : w.before args s = true) : ∀ w' ∈ [w], ∀ (a' : Array Value) (U : State), s.WarmedH U.vm → w'.before a' U = true := by
  intro w' h' a' U hW
  rw [List.mem_singleton.mp h']
  exact word_at hW (good_of_word hg) h
theorem Cx.room (X : Cx p l R s m meth c g ca D sL own cc nL d kc ks) {d' mc ms mL : Nat} (hd : d' + 1 ≤ d) (hm : mL ≤ 45) : (rmD d' mc ms).frames + 1 ≤ R.frames ∧ 8 + (mL + 11) + (rmD d' mc ms).locals ≤ R.locals := by
  have h1 := X.frames
  have h2 := X.locals
  show d' + 1 ≤ R.frames ∧ 8 + (mL + 11) + 64 * d' ≤ R.locals
  omega
theorem sum_rv {S : List Value} : ((S.map (rv g)).map fun v => v.category).sum = (S.map fun v => v.category).sum := by
  rw [List.map_map]; congr 1; exact List.map_congr_left (fun v _ => rv_cat g v)
theorem Cx.callB (X : Cx p l R s m meth c g ca D sL own cc nL d kc ks) {y : MethodName} {cb : ByteArray} {mL na idx d' mc ms : Nat} {rt : Option FieldType} (hm : MOk y na) (ho : wok (.code y cb mL rt)) (hw : wok (.methodLink own idx y)) (hd : d' + 1 ≤ d) (hmL : mL ≤ 45) :
    CallB R s args own idx y cb mL rt [.code y cb mL rt] (rmD d' mc ms) mc ms na := by
  refine ⟨rfl, rfl, (X.room hd hmL (mc := mc) (ms := ms)).1, (X.room hd hmL (mc := mc) (ms := ms)).2, wok_keep ho.2 (X.word ho args), List.mem_cons_self, X.word ho args, X.word hm.1 args, hm.2.1, fun sig h => ?_, X.word hw args⟩
  have h2 := hm.2.2.2
  rw [h] at h2
  exact (Option.some.inj h2).symm
theorem run_done {k n pc mc ms : Nat} {H' : aH} {Hr : Heap} {locs : List Loc} {ls : Array Slot} {st0 rest : List Value} {v : Option Value} {a : Array Value} (hr : vx_Run p l e R s m args below meth c Hr locs k n mc ms (F0 m pc ls st0) rest (qR g ca D (.inl v) H' a) (qX g ca D (.inl v) H') (aD g)) (hS : va_S (aD g) s.heap Hr locs)
    (kk : ∀ (H1 : Heap) (locs1 : List Loc), wld g ca D H' H1 → va_S (aD g) s.heap H1 locs1 → W p l e R s m args below meth c H1 locs1 (k + mc) (n + ms) Q (F0 m (pc + 3) ls ((v.map (rv g)).toList ++ rest))) : W p l e R s m args below meth c Hr locs k n Q (F0 m pc ls st0) := by
  intro T hT X
  rcases hr T hT X with ⟨v2, st₀, t, T', L, h0, X', hL, e1, e2, ⟨v3, hv3, ho, hw, hF⟩, st⟩ | ⟨q, st₀, t, T', L, E, ce, h0, X', hL, e1, e2, ⟨hv3, hw, hF⟩, hce, hcv, hcl, st⟩
  · cases hv3
    cases ho
    obtain ⟨k1, k2, k3⟩ := vx_keep h0 e1 hS (fun _ _ h => h) (fun _ h => h) hL hF
    obtain ⟨t2, a1, b1⟩ := kk T'.heap (locs ++ L) (by rw [e1]; exact hw) k3 T' rfl X'
    exact ⟨t2, st t2 a1, b1⟩
  · cases hv3
theorem run_threw {k n pc mc ms : Nat} {H' : aH} {Hr : Heap} {locs : List Loc} {ls : Array Slot} {st0 rest : List Value} {E : String} {a : Array Value} (hr : vx_Run p l e R s m args below meth c Hr locs k n mc ms (F0 m pc ls st0) rest (qR g ca D (.inr E) H' a) (qX g ca D (.inr E) H') (aD g)) (hS : va_S (aD g) s.heap Hr locs)
    (kx : ∀ (H1 : Heap) (locs1 : List Loc) (q : Addr) (ce : Cell), wld g ca D H' H1 → va_S (aD g) s.heap H1 locs1 → H1[q]? = some ce → ce.vm = .none → s.vm.findClass E = some ce.cls → vx_W p l e R s m args below meth c H1 locs1 (k + mc) (n + ms) Q (F0 m pc ls rest) q) : W p l e R s m args below meth c Hr locs k n Q (F0 m pc ls st0) := by
  intro T hT X
  rcases hr T hT X with ⟨v2, st₀, t, T', L, h0, X', hL, e1, e2, ⟨v3, hv3, ho, hw, hF⟩, st⟩ | ⟨q, st₀, t, T', L, E2, ce, h0, X', hL, e1, e2, ⟨hv3, hw, hF⟩, hce, hcv, hcl, st⟩
  · cases hv3
  · cases hv3
    obtain ⟨k1, k2, k3⟩ := vx_keep h0 e1 hS (fun _ _ h => h) (fun _ h => h) hL hF
    obtain ⟨t2, a1, b1⟩ := kx T'.heap (locs ++ L) q ce (by rw [e1]; exact hw) k3 (by rw [e1]; exact hce) hcv hcl T' rfl X'
    exact ⟨t2, st.trans a1, b1⟩
theorem Cx.runV (X : Cx p l R s m meth c g ca D sL own cc nL d kc ks) {y : MethodName} {cb : ByteArray} {mL na idx d' mc ms i ci k n pc : Nat} {rt : Option FieldType} {av S : List Value} {H H' : aH} {r : rR} {Hr : Heap} {locs : List Loc} {ls : Array Slot} {L : List (Option Value)} {fs : List Value} {T : u_T} {N : Nat}
    (hm : MOk y na) (ho : wok (.code y cb mL rt)) (hv : wok (.instanceMethod y)) (hsl : wok (.selects y.cls y y)) (hw : wok (.methodLink own idx y)) (hc : Ct d' mc ms y (.code y cb mL rt) (.ref i :: av) H r H') (hd : d' + 1 ≤ d) (hmL : mL ≤ 45) (hna : av.length = na)
    (hi : i < H.2.1) (hH : H.2.2 i = .inr (ci, fs)) (hci : vwCl[ci]? = some (y.cls, T, N)) (hsum : (S.map fun v => v.category).sum ≤ 8) (hk : k + mc ≤ kc) (hn : n + ms ≤ ks) (dg : decode cc pc = .ok (.invokevirtual idx, 3)) (hN : wld g ca D H Hr) (hS : va_S (aD g) s.heap Hr locs) (hl : lH g ls nL L) :
    vx_Run p l e R s m args below meth c Hr locs k n mc ms (F0 m pc ls ((av.reverse ++ .ref i :: S).map (rv g))) (S.map (rv g)) (qR g ca D r H' ((Value.ref i :: av).map (rv g)).toArray) (qX g ca D r H') (aD g) := by
  have hP := X.preS (av := .ref i :: av) hN hS
  have hrv : ∃ cell : Cell, Hr[ra g i]? = some cell ∧ cell.vm.isStatics = false ∧ s.vm.findClass y.cls = some cell.cls := by
    rw [ra_lt (Nat.lt_of_lt_of_le hi hN.1)]
    exact va_recv (q := (y.cls, T, N)) X.K hN.2.1 (ci := ci) (q0 := i) (fs := fs.map (rv g)) hci (by rw [rW_get hi, hH]; rfl)
  exact vx_runV (b := ra g i) (As := av.map (rv g)) (rest := S.map (rv g)) (own := own) (Ts := []) ⟨X.exec, X.code, X.max, X.ow, fun _ h => nomatch h⟩ (hc l sL g D ca X.gl) ⟨X.callB hm ho hw hd hmL, X.word hv args, X.word hsl args⟩ ⟨hP.1, hrv, hP.2⟩ rfl (by rw [List.length_map]; exact hna) hl.1
    (by show (av.reverse ++ .ref i :: S).map (rv g) = _; rw [List.map_append, List.map_reverse]; rfl) (lv_room (by rw [sum_rv]; exact hsum)) dg ⟨Nat.le_trans hk X.cells, Nat.le_trans hn X.slots⟩
theorem Cx.runS (X : Cx p l R s m meth c g ca D sL own cc nL d kc ks) {y : MethodName} {cb : ByteArray} {mL na idx d' mc ms k n pc : Nat} {rt : Option FieldType} {av S : List Value} {H H' : aH} {r : rR} {Hr : Heap} {locs : List Loc} {ls : Array Slot} {L : List (Option Value)}
    (hm : MOk y na) (ho : wok (.code y cb mL rt)) (hv : wok (.static y)) (hw : wok (.methodLink own idx y)) (hc : Ct d' mc ms y (.code y cb mL rt) av H r H') (hd : d' + 1 ≤ d) (hmL : mL ≤ 45) (hna : av.length = na)
    (hsum : (S.map fun v => v.category).sum ≤ 8) (hk : k + mc ≤ kc) (hn : n + ms ≤ ks) (dg : decode cc pc = .ok (.invokestatic idx, 3)) (hN : wld g ca D H Hr) (hS : va_S (aD g) s.heap Hr locs) (hl : lH g ls nL L) :
    vx_Run p l e R s m args below meth c Hr locs k n mc ms (F0 m pc ls ((av.reverse ++ S).map (rv g))) (S.map (rv g)) (qR g ca D r H' (av.map (rv g)).toArray) (qX g ca D r H') (aD g) := by
  exact vx_runS (As := av.map (rv g)) (rest := S.map (rv g)) (own := own) (Ts := []) ⟨X.exec, X.code, X.max, X.ow, fun _ h => nomatch h⟩ (hc l sL g D ca X.gl) ⟨X.callB hm ho hw hd hmL, X.word hv args⟩ (X.preS hN hS) rfl (by rw [List.length_map]; exact hna) hl.1
    (by show (av.reverse ++ S).map (rv g) = _; rw [List.map_append, List.map_reverse]) (lv_room (by rw [sum_rv]; exact hsum)) dg ⟨Nat.le_trans hk X.cells, Nat.le_trans hn X.slots⟩
theorem Cx.runI (X : Cx p l R s m meth c g ca D sL own cc nL d kc ks) {y : MethodName} {cb : ByteArray} {mL na idx d' mc ms i k n pc : Nat} {av S : List Value} {H H' : aH} {r : rR} {Hr : Heap} {locs : List Loc} {ls : Array Slot} {L : List (Option Value)}
    (hm : MOk y na) (hy : y.name = "<init>") (ho : wok (.code y cb mL none)) (hv : wok (.instanceMethod y)) (hw : wok (.methodLink own idx y)) (hc : Ct d' mc ms y (.code y cb mL none) (.ref i :: av) H r H') (hd : d' + 1 ≤ d) (hmL : mL ≤ 45) (hna : av.length = na)
    (hsum : (S.map fun v => v.category).sum ≤ 8) (hk : k + mc ≤ kc) (hn : n + ms ≤ ks) (dg : decode cc pc = .ok (.invokespecial idx, 3)) (hN : wld g ca D H Hr) (hS : va_S (aD g) s.heap Hr locs) (hl : lH g ls nL L) :
    vx_Run p l e R s m args below meth c Hr locs k n mc ms (F0 m pc ls ((av.reverse ++ .ref i :: S).map (rv g))) (S.map (rv g)) (qR g ca D r H' ((Value.ref i :: av).map (rv g)).toArray) (qX g ca D r H') (aD g) := by
  exact vx_runI (b := ra g i) (As := av.map (rv g)) (rest := S.map (rv g)) (own := own) (Ts := []) ⟨X.exec, X.code, X.max, X.ow, fun _ h => nomatch h⟩ (hc l sL g D ca X.gl) ⟨X.callB hm ho hw hd hmL, hy, X.word hv args⟩ (X.preS (av := .ref i :: av) hN hS) rfl (by rw [List.length_map]; exact hna) hl.1
    (by show (av.reverse ++ .ref i :: S).map (rv g) = _; rw [List.map_append, List.map_reverse]; rfl) (lv_room (by rw [sum_rv]; exact hsum)) dg ⟨Nat.le_trans hk X.cells, Nat.le_trans hn X.slots⟩
theorem Cx.nest (X : Cx p l R s m meth c g ca D sL own cc nL d kc ks) {y : MethodName} {host : String} {idx : Nat} (h : (Cond.methodLinkNest own idx y host) ∈ lw_tbl) : (Cond.methodLinkNest own idx y host).before args s = true := by
  obtain ⟨-, ⟨a0, h0⟩, -⟩ := X.1
  exact va_Nw.use rfl (va_Nw.warmM X.2.1 (va_Nw.of rfl (h0 _ h)))
theorem Cx.callN (X : Cx p l R s m meth c g ca D sL own cc nL d kc ks) {y : MethodName} {host : String} {cb : ByteArray} {mL na idx d' mc ms : Nat} {rt : Option FieldType} (hm : MOk y na) (ho : wok (.code y cb mL rt)) (hw : (Cond.methodLinkNest own idx y host) ∈ lw_tbl) (hd : d' + 1 ≤ d) (hmL : mL ≤ 45) :
    va_CN R s args own idx y host cb mL rt [.code y cb mL rt] (rmD d' mc ms) mc ms na := by
  refine ⟨⟨rfl, rfl, (X.room hd hmL (mc := mc) (ms := ms)).1, (X.room hd hmL (mc := mc) (ms := ms)).2, wok_keep ho.2 (X.word ho args), List.mem_cons_self⟩, X.word ho args, X.word hm.1 args, hm.2.1, fun sig h => ?_, X.nest hw⟩
  have h2 := hm.2.2.2
  rw [h] at h2
  exact (Option.some.inj h2).symm
theorem Cx.runSN (X : Cx p l R s m meth c g ca D sL own cc nL d kc ks) {y : MethodName} {host : String} {cb : ByteArray} {mL na idx d' mc ms k n pc : Nat} {rt : Option FieldType} {av S : List Value} {H H' : aH} {r : rR} {Hr : Heap} {locs : List Loc} {ls : Array Slot} {L : List (Option Value)}
    (hm : MOk y na) (ho : wok (.code y cb mL rt)) (hv : wok (.static y)) (hw : (Cond.methodLinkNest own idx y host) ∈ lw_tbl) (hc : Ct d' mc ms y (.code y cb mL rt) av H r H') (hd : d' + 1 ≤ d) (hmL : mL ≤ 45) (hna : av.length = na)
    (hsum : (S.map fun v => v.category).sum ≤ 8) (hk : k + mc ≤ kc) (hn : n + ms ≤ ks) (dg : decode cc pc = .ok (.invokestatic idx, 3)) (hN : wld g ca D H Hr) (hS : va_S (aD g) s.heap Hr locs) (hl : lH g ls nL L) :
    vx_Run p l e R s m args below meth c Hr locs k n mc ms (F0 m pc ls ((av.reverse ++ S).map (rv g))) (S.map (rv g)) (qR g ca D r H' (av.map (rv g)).toArray) (qX g ca D r H') (aD g) := by
  exact vx_runSN (As := av.map (rv g)) (rest := S.map (rv g)) (own := own) (Ts := []) ⟨X.exec, X.code, X.max, X.ow, fun _ h => nomatch h⟩ (hc l sL g D ca X.gl) ⟨X.callN hm ho hw hd hmL, X.word hv args, trivial⟩ (X.preS hN hS) rfl (by rw [List.length_map]; exact hna) hl.1
    (by show (av.reverse ++ S).map (rv g) = _; rw [List.map_append, List.map_reverse]) (lv_room (by rw [sum_rv]; exact hsum)) dg ⟨Nat.le_trans hk X.cells, Nat.le_trans hn X.slots⟩
theorem Cx.runIN (X : Cx p l R s m meth c g ca D sL own cc nL d kc ks) {y : MethodName} {host : String} {cb : ByteArray} {mL na idx d' mc ms i k n pc : Nat} {av S : List Value} {H H' : aH} {r : rR} {Hr : Heap} {locs : List Loc} {ls : Array Slot} {L : List (Option Value)}
    (hm : MOk y na) (hy : y.name = "<init>") (ho : wok (.code y cb mL none)) (hv : wok (.instanceMethod y)) (hw : (Cond.methodLinkNest own idx y host) ∈ lw_tbl) (hc : Ct d' mc ms y (.code y cb mL none) (.ref i :: av) H r H') (hd : d' + 1 ≤ d) (hmL : mL ≤ 45) (hna : av.length = na)
    (hsum : (S.map fun v => v.category).sum ≤ 8) (hk : k + mc ≤ kc) (hn : n + ms ≤ ks) (dg : decode cc pc = .ok (.invokespecial idx, 3)) (hN : wld g ca D H Hr) (hS : va_S (aD g) s.heap Hr locs) (hl : lH g ls nL L) :
    vx_Run p l e R s m args below meth c Hr locs k n mc ms (F0 m pc ls ((av.reverse ++ .ref i :: S).map (rv g))) (S.map (rv g)) (qR g ca D r H' ((Value.ref i :: av).map (rv g)).toArray) (qX g ca D r H') (aD g) := by
  exact vx_runIN (b := ra g i) (As := av.map (rv g)) (rest := S.map (rv g)) (own := own) (Ts := []) ⟨X.exec, X.code, X.max, X.ow, fun _ h => nomatch h⟩ (hc l sL g D ca X.gl) ⟨X.callN hm ho hw hd hmL, hy, X.word hv args⟩ (X.preS (av := .ref i :: av) hN hS) rfl (by rw [List.length_map]; exact hna) hl.1
    (by show (av.reverse ++ .ref i :: S).map (rv g) = _; rw [List.map_append, List.map_reverse]; rfl) (lv_room (by rw [sum_rv]; exact hsum)) dg ⟨Nat.le_trans hk X.cells, Nat.le_trans hn X.slots⟩
end
