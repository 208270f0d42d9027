/-! ===== THE LAYER, 4: the rules of calls ===== -/
def VM (y : MethodName) (cb : ByteArray) (mL : Nat) (rt : Option FieldType) (na ci : Nat) : Prop := MOk y na ∧ wok (.code y cb mL rt) ∧ wok (.instanceMethod y) ∧ wok (.selects y.cls y y) ∧ mL ≤ 45 ∧ ∃ (T : u_T) (N : Nat), vwCl[ci]? = some (y.cls, T, N)
def SM (y : MethodName) (cb : ByteArray) (mL : Nat) (rt : Option FieldType) (na : Nat) : Prop := MOk y na ∧ wok (.code y cb mL rt) ∧ wok (.static y) ∧ mL ≤ 45
def IM (y : MethodName) (cb : ByteArray) (mL : Nat) (na : Nat) : Prop := MOk y na ∧ wok (.code y cb mL none) ∧ wok (.instanceMethod y) ∧ mL ≤ 45 ∧ y.name = "<init>"
section
variable {own : String} {cc : ByteArray} {nL d kc ks : Nat} {Wk : tW} {k n pc q : Nat} {L : List (Option Value)} {S St : List Value} {H H' H2 : aH} {ret : Option FieldType} {tab : List (Nat × Nat × Nat × Nat)} {ini : Bool} {r : rR}
variable {y : MethodName} {cb : ByteArray} {mL na idx d' mc ms i ci : Nat} {rt : Option FieldType} {av : List Value} {fs : List Value} {host : String}

theorem Core.callV0 {w : Value} (C : Core own cc nL d kc ks Wk) (hm : VM y cb mL rt na ci) (hw : wok (.methodLink own idx y)) (hc : Ct d' 0 0 y (.code y cb mL rt) (.ref i :: av) H (.inl (some w)) H') (hst : St = av.reverse ++ .ref i :: S) (hd : d' + 1 ≤ d) (hna : av.length = na) (hi : i < H.2.1) (hH : H.2.2 i = .inr (ci, fs)) (hsum : (S.map fun v => v.category).sum ≤ 8) (hk : k ≤ kc) (hn : n ≤ ks) (dg : decode cc pc = .ok (.invokevirtual idx, 3)) (hq : pc + 3 = q)
    (kk : Wk k n q L (w :: S) H') : Wk k n pc L St H := by
  obtain ⟨p, l, e, R, s, m, args, below, meth, c, Q, g, ca, D, sL, X, rfl⟩ := C
  subst hq; subst hst
  intro Hr locs ls hN hS hl
  obtain ⟨h1, h2, h3, h4, h5, T, N, h6⟩ := hm
  exact run_done (X.runV h1 h2 h3 h4 hw hc hd h5 hna hi hH h6 hsum hk hn dg hN hS hl) hS (fun H1 locs1 hw1 hS1 => kk H1 locs1 ls hw1 hS1 hl)

theorem Core.callV {w : Value} (C : Core own cc nL d kc ks Wk) (hm : VM y cb mL rt na ci) (hw : wok (.methodLink own idx y)) (hc : Ct d' mc ms y (.code y cb mL rt) (.ref i :: av) H (.inl (some w)) H') (hst : St = av.reverse ++ .ref i :: S) (hd : d' + 1 ≤ d) (hna : av.length = na) (hi : i < H.2.1) (hH : H.2.2 i = .inr (ci, fs)) (hsum : (S.map fun v => v.category).sum ≤ 8) (hk : k + mc ≤ kc) (hn : n + ms ≤ ks) (dg : decode cc pc = .ok (.invokevirtual idx, 3)) (hq : pc + 3 = q)
    (kk : Wk (k + mc) (n + ms) q L (w :: S) H') : Wk k n pc L St H := by
  obtain ⟨p, l, e, R, s, m, args, below, meth, c, Q, g, ca, D, sL, X, rfl⟩ := C
  subst hq; subst hst
  intro Hr locs ls hN hS hl
  obtain ⟨h1, h2, h3, h4, h5, T, N, h6⟩ := hm
  exact run_done (X.runV h1 h2 h3 h4 hw hc hd h5 hna hi hH h6 hsum hk hn dg hN hS hl) hS (fun H1 locs1 hw1 hS1 => kk H1 locs1 ls hw1 hS1 hl)

theorem Core.callVv0 (C : Core own cc nL d kc ks Wk) (hm : VM y cb mL rt na ci) (hw : wok (.methodLink own idx y)) (hc : Ct d' 0 0 y (.code y cb mL rt) (.ref i :: av) H (.inl none) H') (hst : St = av.reverse ++ .ref i :: S) (hd : d' + 1 ≤ d) (hna : av.length = na) (hi : i < H.2.1) (hH : H.2.2 i = .inr (ci, fs)) (hsum : (S.map fun v => v.category).sum ≤ 8) (hk : k ≤ kc) (hn : n ≤ ks) (dg : decode cc pc = .ok (.invokevirtual idx, 3)) (hq : pc + 3 = q)
    (kk : Wk k n q L S H') : Wk k n pc L St H := by
  obtain ⟨p, l, e, R, s, m, args, below, meth, c, Q, g, ca, D, sL, X, rfl⟩ := C
  subst hq; subst hst
  intro Hr locs ls hN hS hl
  obtain ⟨h1, h2, h3, h4, h5, T, N, h6⟩ := hm
  exact run_done (X.runV h1 h2 h3 h4 hw hc hd h5 hna hi hH h6 hsum hk hn dg hN hS hl) hS (fun H1 locs1 hw1 hS1 => kk H1 locs1 ls hw1 hS1 hl)

theorem Core.callVv (C : Core own cc nL d kc ks Wk) (hm : VM y cb mL rt na ci) (hw : wok (.methodLink own idx y)) (hc : Ct d' mc ms y (.code y cb mL rt) (.ref i :: av) H (.inl none) H') (hst : St = av.reverse ++ .ref i :: S) (hd : d' + 1 ≤ d) (hna : av.length = na) (hi : i < H.2.1) (hH : H.2.2 i = .inr (ci, fs)) (hsum : (S.map fun v => v.category).sum ≤ 8) (hk : k + mc ≤ kc) (hn : n + ms ≤ ks) (dg : decode cc pc = .ok (.invokevirtual idx, 3)) (hq : pc + 3 = q)
    (kk : Wk (k + mc) (n + ms) q L S H') : Wk k n pc L St H := by
  obtain ⟨p, l, e, R, s, m, args, below, meth, c, Q, g, ca, D, sL, X, rfl⟩ := C
  subst hq; subst hst
  intro Hr locs ls hN hS hl
  obtain ⟨h1, h2, h3, h4, h5, T, N, h6⟩ := hm
  exact run_done (X.runV h1 h2 h3 h4 hw hc hd h5 hna hi hH h6 hsum hk hn dg hN hS hl) hS (fun H1 locs1 hw1 hS1 => kk H1 locs1 ls hw1 hS1 hl)

theorem Core.callS0 {w : Value} (C : Core own cc nL d kc ks Wk) (hm : SM y cb mL rt na) (hw : wok (.methodLink own idx y)) (hc : Ct d' 0 0 y (.code y cb mL rt) av H (.inl (some w)) H') (hst : St = av.reverse ++ S) (hd : d' + 1 ≤ d) (hna : av.length = na) (hsum : (S.map fun v => v.category).sum ≤ 8) (hk : k ≤ kc) (hn : n ≤ ks) (dg : decode cc pc = .ok (.invokestatic idx, 3)) (hq : pc + 3 = q)
    (kk : Wk k n q L (w :: S) H') : Wk k n pc L St H := by
  obtain ⟨p, l, e, R, s, m, args, below, meth, c, Q, g, ca, D, sL, X, rfl⟩ := C
  subst hq; subst hst
  intro Hr locs ls hN hS hl
  obtain ⟨h1, h2, h3, h5⟩ := hm
  exact run_done (X.runS h1 h2 h3 hw hc hd h5 hna hsum hk hn dg hN hS hl) hS (fun H1 locs1 hw1 hS1 => kk H1 locs1 ls hw1 hS1 hl)

theorem Core.callS {w : Value} (C : Core own cc nL d kc ks Wk) (hm : SM y cb mL rt na) (hw : wok (.methodLink own idx y)) (hc : Ct d' mc ms y (.code y cb mL rt) av H (.inl (some w)) H') (hst : St = av.reverse ++ S) (hd : d' + 1 ≤ d) (hna : av.length = na) (hsum : (S.map fun v => v.category).sum ≤ 8) (hk : k + mc ≤ kc) (hn : n + ms ≤ ks) (dg : decode cc pc = .ok (.invokestatic idx, 3)) (hq : pc + 3 = q)
    (kk : Wk (k + mc) (n + ms) q L (w :: S) H') : Wk k n pc L St H := by
  obtain ⟨p, l, e, R, s, m, args, below, meth, c, Q, g, ca, D, sL, X, rfl⟩ := C
  subst hq; subst hst
  intro Hr locs ls hN hS hl
  obtain ⟨h1, h2, h3, h5⟩ := hm
  exact run_done (X.runS h1 h2 h3 hw hc hd h5 hna hsum hk hn dg hN hS hl) hS (fun H1 locs1 hw1 hS1 => kk H1 locs1 ls hw1 hS1 hl)

theorem Core.callSv0 (C : Core own cc nL d kc ks Wk) (hm : SM y cb mL rt na) (hw : wok (.methodLink own idx y)) (hc : Ct d' 0 0 y (.code y cb mL rt) av H (.inl none) H') (hst : St = av.reverse ++ S) (hd : d' + 1 ≤ d) (hna : av.length = na) (hsum : (S.map fun v => v.category).sum ≤ 8) (hk : k ≤ kc) (hn : n ≤ ks) (dg : decode cc pc = .ok (.invokestatic idx, 3)) (hq : pc + 3 = q)
    (kk : Wk k n q L S H') : Wk k n pc L St H := by
  obtain ⟨p, l, e, R, s, m, args, below, meth, c, Q, g, ca, D, sL, X, rfl⟩ := C
  subst hq; subst hst
  intro Hr locs ls hN hS hl
  obtain ⟨h1, h2, h3, h5⟩ := hm
  exact run_done (X.runS h1 h2 h3 hw hc hd h5 hna hsum hk hn dg hN hS hl) hS (fun H1 locs1 hw1 hS1 => kk H1 locs1 ls hw1 hS1 hl)

theorem Core.callSv (C : Core own cc nL d kc ks Wk) (hm : SM y cb mL rt na) (hw : wok (.methodLink own idx y)) (hc : Ct d' mc ms y (.code y cb mL rt) av H (.inl none) H') (hst : St = av.reverse ++ S) (hd : d' + 1 ≤ d) (hna : av.length = na) (hsum : (S.map fun v => v.category).sum ≤ 8) (hk : k + mc ≤ kc) (hn : n + ms ≤ ks) (dg : decode cc pc = .ok (.invokestatic idx, 3)) (hq : pc + 3 = q)
    (kk : Wk (k + mc) (n + ms) q L S H') : Wk k n pc L St H := by
  obtain ⟨p, l, e, R, s, m, args, below, meth, c, Q, g, ca, D, sL, X, rfl⟩ := C
  subst hq; subst hst
  intro Hr locs ls hN hS hl
  obtain ⟨h1, h2, h3, h5⟩ := hm
  exact run_done (X.runS h1 h2 h3 hw hc hd h5 hna hsum hk hn dg hN hS hl) hS (fun H1 locs1 hw1 hS1 => kk H1 locs1 ls hw1 hS1 hl)

theorem Core.callSN0 {w : Value} (C : Core own cc nL d kc ks Wk) (hm : SM y cb mL rt na) (hw : (Cond.methodLinkNest own idx y host) ∈ lw_tbl) (hc : Ct d' 0 0 y (.code y cb mL rt) av H (.inl (some w)) H') (hst : St = av.reverse ++ S) (hd : d' + 1 ≤ d) (hna : av.length = na) (hsum : (S.map fun v => v.category).sum ≤ 8) (hk : k ≤ kc) (hn : n ≤ ks) (dg : decode cc pc = .ok (.invokestatic idx, 3)) (hq : pc + 3 = q)
    (kk : Wk k n q L (w :: S) H') : Wk k n pc L St H := by
  obtain ⟨p, l, e, R, s, m, args, below, meth, c, Q, g, ca, D, sL, X, rfl⟩ := C
  subst hq; subst hst
  intro Hr locs ls hN hS hl
  obtain ⟨h1, h2, h3, h5⟩ := hm
  exact run_done (X.runSN h1 h2 h3 hw hc hd h5 hna hsum hk hn dg hN hS hl) hS (fun H1 locs1 hw1 hS1 => kk H1 locs1 ls hw1 hS1 hl)

theorem Core.callSN {w : Value} (C : Core own cc nL d kc ks Wk) (hm : SM y cb mL rt na) (hw : (Cond.methodLinkNest own idx y host) ∈ lw_tbl) (hc : Ct d' mc ms y (.code y cb mL rt) av H (.inl (some w)) H') (hst : St = av.reverse ++ S) (hd : d' + 1 ≤ d) (hna : av.length = na) (hsum : (S.map fun v => v.category).sum ≤ 8) (hk : k + mc ≤ kc) (hn : n + ms ≤ ks) (dg : decode cc pc = .ok (.invokestatic idx, 3)) (hq : pc + 3 = q)
    (kk : Wk (k + mc) (n + ms) q L (w :: S) H') : Wk k n pc L St H := by
  obtain ⟨p, l, e, R, s, m, args, below, meth, c, Q, g, ca, D, sL, X, rfl⟩ := C
  subst hq; subst hst
  intro Hr locs ls hN hS hl
  obtain ⟨h1, h2, h3, h5⟩ := hm
  exact run_done (X.runSN h1 h2 h3 hw hc hd h5 hna hsum hk hn dg hN hS hl) hS (fun H1 locs1 hw1 hS1 => kk H1 locs1 ls hw1 hS1 hl)

theorem Core.callIv0 (C : Core own cc nL d kc ks Wk) (hm : IM y cb mL na) (hw : wok (.methodLink own idx y)) (hc : Ct d' 0 0 y (.code y cb mL none) (.ref i :: av) H (.inl none) H') (hst : St = av.reverse ++ .ref i :: S) (hd : d' + 1 ≤ d) (hna : av.length = na) (hsum : (S.map fun v => v.category).sum ≤ 8) (hk : k ≤ kc) (hn : n ≤ ks) (dg : decode cc pc = .ok (.invokespecial idx, 3)) (hq : pc + 3 = q)
    (kk : Wk k n q L S H') : Wk k n pc L St H := by
  obtain ⟨p, l, e, R, s, m, args, below, meth, c, Q, g, ca, D, sL, X, rfl⟩ := C
  subst hq; subst hst
  intro Hr locs ls hN hS hl
  obtain ⟨h1, h2, h3, h5, h6⟩ := hm
  exact run_done (X.runI h1 h6 h2 h3 hw hc hd h5 hna hsum hk hn dg hN hS hl) hS (fun H1 locs1 hw1 hS1 => kk H1 locs1 ls hw1 hS1 hl)

theorem Core.callIv (C : Core own cc nL d kc ks Wk) (hm : IM y cb mL na) (hw : wok (.methodLink own idx y)) (hc : Ct d' mc ms y (.code y cb mL none) (.ref i :: av) H (.inl none) H') (hst : St = av.reverse ++ .ref i :: S) (hd : d' + 1 ≤ d) (hna : av.length = na) (hsum : (S.map fun v => v.category).sum ≤ 8) (hk : k + mc ≤ kc) (hn : n + ms ≤ ks) (dg : decode cc pc = .ok (.invokespecial idx, 3)) (hq : pc + 3 = q)
    (kk : Wk (k + mc) (n + ms) q L S H') : Wk k n pc L St H := by
  obtain ⟨p, l, e, R, s, m, args, below, meth, c, Q, g, ca, D, sL, X, rfl⟩ := C
  subst hq; subst hst
  intro Hr locs ls hN hS hl
  obtain ⟨h1, h2, h3, h5, h6⟩ := hm
  exact run_done (X.runI h1 h6 h2 h3 hw hc hd h5 hna hsum hk hn dg hN hS hl) hS (fun H1 locs1 hw1 hS1 => kk H1 locs1 ls hw1 hS1 hl)

theorem Core.callINv0 (C : Core own cc nL d kc ks Wk) (hm : IM y cb mL na) (hw : (Cond.methodLinkNest own idx y host) ∈ lw_tbl) (hc : Ct d' 0 0 y (.code y cb mL none) (.ref i :: av) H (.inl none) H') (hst : St = av.reverse ++ .ref i :: S) (hd : d' + 1 ≤ d) (hna : av.length = na) (hsum : (S.map fun v => v.category).sum ≤ 8) (hk : k ≤ kc) (hn : n ≤ ks) (dg : decode cc pc = .ok (.invokespecial idx, 3)) (hq : pc + 3 = q)
    (kk : Wk k n q L S H') : Wk k n pc L St H := by
  obtain ⟨p, l, e, R, s, m, args, below, meth, c, Q, g, ca, D, sL, X, rfl⟩ := C
  subst hq; subst hst
  intro Hr locs ls hN hS hl
  obtain ⟨h1, h2, h3, h5, h6⟩ := hm
  exact run_done (X.runIN h1 h6 h2 h3 hw hc hd h5 hna hsum hk hn dg hN hS hl) hS (fun H1 locs1 hw1 hS1 => kk H1 locs1 ls hw1 hS1 hl)

theorem Core.callINv (C : Core own cc nL d kc ks Wk) (hm : IM y cb mL na) (hw : (Cond.methodLinkNest own idx y host) ∈ lw_tbl) (hc : Ct d' mc ms y (.code y cb mL none) (.ref i :: av) H (.inl none) H') (hst : St = av.reverse ++ .ref i :: S) (hd : d' + 1 ≤ d) (hna : av.length = na) (hsum : (S.map fun v => v.category).sum ≤ 8) (hk : k + mc ≤ kc) (hn : n + ms ≤ ks) (dg : decode cc pc = .ok (.invokespecial idx, 3)) (hq : pc + 3 = q)
    (kk : Wk (k + mc) (n + ms) q L S H') : Wk k n pc L St H := by
  obtain ⟨p, l, e, R, s, m, args, below, meth, c, Q, g, ca, D, sL, X, rfl⟩ := C
  subst hq; subst hst
  intro Hr locs ls hN hS hl
  obtain ⟨h1, h2, h3, h5, h6⟩ := hm
  exact run_done (X.runIN h1 h6 h2 h3 hw hc hd h5 hna hsum hk hn dg hN hS hl) hS (fun H1 locs1 hw1 hS1 => kk H1 locs1 ls hw1 hS1 hl)

theorem OkM.outV {E : String} (C : OkM own cc nL d kc ks ret [] ini (.inr E) H' Wk) (hm : VM y cb mL rt na ci) (hw : wok (.methodLink own idx y)) (hc : Ct d' mc ms y (.code y cb mL rt) (.ref i :: av) H (.inr E) H') (hst : St = av.reverse ++ .ref i :: S) (hd : d' + 1 ≤ d) (hna : av.length = na) (hi : i < H.2.1) (hH : H.2.2 i = .inr (ci, fs)) (hsum : (S.map fun v => v.category).sum ≤ 8) (hk : k + mc ≤ kc) (hn : n + ms ≤ ks) (dg : decode cc pc = .ok (.invokevirtual idx, 3)) : Wk k n pc L St H := by
  obtain ⟨p, l, e, R, s, m, args, below, meth, c, g, ca, D, sL, X, ht, -, -, rfl⟩ := C
  subst hst
  intro Hr locs ls hN hS hl
  obtain ⟨h1, h2, h3, h4, h5, T, N, h6⟩ := hm
  refine run_threw (X.runV h1 h2 h3 h4 hw hc hd h5 hna hi hH h6 hsum hk hn dg hN hS hl) hS (fun H1 locs1 q1 ce hw1 hS1 hce hcv hcl => ?_)
  refine vx_out (fun x hx => ?_) X.locks hce hcv hcl (fun t ht _ => ⟨rfl, by rw [ht]; exact hw1, hS1.F ht⟩) hS1.2.2 hk hn
  rw [ht] at hx
  exact nomatch hx

theorem OkM.outS {E : String} (C : OkM own cc nL d kc ks ret [] ini (.inr E) H' Wk) (hm : SM y cb mL rt na) (hw : wok (.methodLink own idx y)) (hc : Ct d' mc ms y (.code y cb mL rt) av H (.inr E) H') (hst : St = av.reverse ++ S) (hd : d' + 1 ≤ d) (hna : av.length = na) (hsum : (S.map fun v => v.category).sum ≤ 8) (hk : k + mc ≤ kc) (hn : n + ms ≤ ks) (dg : decode cc pc = .ok (.invokestatic idx, 3)) : Wk k n pc L St H := by
  obtain ⟨p, l, e, R, s, m, args, below, meth, c, g, ca, D, sL, X, ht, -, -, rfl⟩ := C
  subst hst
  intro Hr locs ls hN hS hl
  obtain ⟨h1, h2, h3, h5⟩ := hm
  refine run_threw (X.runS h1 h2 h3 hw hc hd h5 hna hsum hk hn dg hN hS hl) hS (fun H1 locs1 q1 ce hw1 hS1 hce hcv hcl => ?_)
  refine vx_out (fun x hx => ?_) X.locks hce hcv hcl (fun t ht _ => ⟨rfl, by rw [ht]; exact hw1, hS1.F ht⟩) hS1.2.2 hk hn
  rw [ht] at hx
  exact nomatch hx

/-- a virtual call throws E, the row x of the table takes it, and it is stored at j -/
theorem OkM.catchV {E name : String} {j hp ln : Nat} (C : OkM own cc nL d kc ks ret tab ini r H2 Wk) (hm : VM y cb mL rt na ci) (hw : wok (.methodLink own idx y)) (hc : Ct d' mc ms y (.code y cb mL rt) (.ref i :: av) H (.inr E) H') (hst : St = av.reverse ++ .ref i :: S) (hd : d' + 1 ≤ d) (hna : av.length = na) (hi : i < H.2.1) (hH : H.2.2 i = .inr (ci, fs)) (hsum : (S.map fun v => v.category).sum ≤ 8) (hk : k + mc ≤ kc) (hn : n + ms ≤ ks) (dg : decode cc pc = .ok (.invokevirtual idx, 3))
    (pre : List ExceptionTableEntry) (x : ExceptionTableEntry) (suf : List ExceptionTableEntry) (hsplit : tableOf tab = pre ++ x :: suf) (hpass : ∀ z ∈ pre, z.catchType ≠ 0 ∧ ∃ nm : String, wok (.classLink own z.catchType nm) ∧ (E, nm) ∈ ncs) (hx : covers x pc = true) (h0 : x.catchType ≠ 0) (hl1 : wok (.classLink own x.catchType name)) (hcast : (Cond.castable E name) ∈ lw_tbl)
    (hj : j < nL) (hj1 : oneL L j = true) (dh : (∃ z : Fin 4, (z : Nat) = j ∧ ln = 1 ∧ decode cc x.handlerPc = .ok (.astore_n z, 1)) ∨ (ln = 2 ∧ decode cc x.handlerPc = .ok (.astore j, 2))) (hq : x.handlerPc + ln = q)
    (kk : Wk (k + mc) (n + ms) q (L.set j none) [] H') : Wk k n pc L St H := by
  obtain ⟨p, l, e, R, s, m, args, below, meth, c, g, ca, D, sL, X, ht, -, -, rfl⟩ := C
  subst hst; subst hq
  intro Hr locs ls hN hS hl
  obtain ⟨h1, h2, h3, h4, h5, T, N, h6⟩ := hm
  refine run_threw (X.runV h1 h2 h3 h4 hw hc hd h5 hna hi hH h6 hsum hk hn dg hN hS hl) hS (fun H1 locs1 q1 ce hw1 hS1 hce hcv hcl => ?_)
  have hcast' : (Cond.castable E name).before args s = true := by
    obtain ⟨-, ⟨a0, h9⟩, -⟩ := X.1
    exact va_Nw.use rfl (va_Nw.warmC X.2.1 (va_Nw.of rfl (h9 _ hcast)))
  refine vx_catch X.ow pre x suf (ht.trans hsplit) (fun z hz => ?_) hx h0 (X.word hl1 args) hcast' hce hcv hcl ?_
  · obtain ⟨a1, nm, a2, a3⟩ := hpass z hz
    exact Or.inr ⟨a1, nm, X.word a2 args, X.nc a3⟩
  · have key : ∀ ls2 : Array Slot, lv_has ls2 nL ((j, Value.ref q1) :: (lP g 0 L).filter (fun q => !(q.1 == j) && !(q.1 + 1 == j && q.2.category == 2))) → lH g ls2 nL (L.set j none) := by
      intro ls2 h
      refine ⟨h.1, h.2.1, fun k9 w hk9 => ?_⟩
      have e9 : ¬ k9 = j := by
        intro e8
        subst e8
        have hl9 : k9 < (L.set k9 none).length := (List.getElem?_eq_some_iff.mp hk9).1
        rw [List.length_set] at hl9
        rw [List.getElem?_set_self hl9] at hk9
        simp at hk9
      rw [List.getElem?_set_ne (Ne.symm e9)] at hk9
      refine h.2.2 (k9, rv g w) (List.mem_cons_of_mem _ (List.mem_filter.mpr ⟨(lP_mem g L 0 _).mpr ⟨k9, w, hk9, by rw [Nat.zero_add]⟩, ?_⟩))
      simp only [Bool.and_eq_true, Bool.not_eq_true', beq_eq_false_iff_ne, ne_eq, Bool.and_eq_false_iff]
      refine ⟨e9, ?_⟩
      by_cases e2 : k9 + 1 = j
      · exact Or.inr (by rw [rv_cat]; exact oneL_spec hj1 e2 hk9)
      · exact Or.inl e2
    rcases dh with ⟨z, hz, rfl, dh⟩ | ⟨rfl, dh⟩
    · exact lv_astore_n X.exec X.code dh hz (lH_has hl) hj rfl (fun ls2 hl2 => kk H1 locs1 ls2 hw1 hS1 (key ls2 hl2))
    · exact lv_astore X.exec X.code dh (lH_has hl) hj rfl (fun ls2 hl2 => kk H1 locs1 ls2 hw1 hS1 (key ls2 hl2))
theorem entry_lH {g : Nat × Nat} {av : List Value} {nL : Nat} {LL : List (Option Value)} (hcat : av.all (fun v => v.category == 1) = true) (hlen : av.length ≤ nL) (hL : av.map some ++ List.replicate (nL - av.length) none = LL) :
    lH g ((lg_sl (av.map (rv g)) ++ List.replicate (nL - (lg_sl (av.map (rv g))).length) Slot.unset).toArray) nL LL := by
  have hcat' : ∀ v ∈ av.map (rv g), v.category = 1 := by
    intro v hv
    obtain ⟨w, hw, rfl⟩ := List.mem_map.mp hv
    rw [rv_cat]
    exact of_decide_eq_true (by simpa using List.all_eq_true.mp hcat w hw)
  have hsl : ∀ vs : List Value, (∀ v ∈ vs, v.category = 1) → lg_sl vs = vs.map Slot.val := by
    intro vs
    induction vs with
    | nil => intro _; rfl
    | cons a t ih =>
      intro h9
      have e1 : a.category = 1 := h9 a List.mem_cons_self
      show (if a.category = 2 then [Slot.val a, .second] else [Slot.val a]) ++ lg_sl t = _
      rw [if_neg (by omega), ih (fun v hv => h9 v (List.mem_cons_of_mem _ hv))]
      rfl
  have hargs : ∀ (vs : List Value) (i : Nat), (∀ v ∈ vs, v.category = 1) → ∀ (j : Nat) (v : Value), vs[j]? = some v → (i + j, v) ∈ lv_args i vs := by
    intro vs
    induction vs with
    | nil => intro i _ j v h9; simp at h9
    | cons a t ih =>
      intro i h9 j v hv
      have e1 : a.category = 1 := h9 a List.mem_cons_self
      show (i + j, v) ∈ (i, a) :: lv_args (if a.category = 2 then i + 2 else i + 1) t
      rw [if_neg (by omega)]
      cases j with
      | zero =>
        have : a = v := by simpa using hv
        subst this
        exact List.mem_cons_self
      | succ j =>
        have := ih (i + 1) (fun v hv => h9 v (List.mem_cons_of_mem _ hv)) j v (by simpa using hv)
        rw [show i + (j + 1) = i + 1 + j by omega]
        exact List.mem_cons_of_mem _ this
  have hle : (lg_sl (av.map (rv g))).length ≤ nL := by rw [hsl _ hcat']; simpa using hlen
  have hl := lv_entry (av.map (rv g)) (n := nL) hle
  refine ⟨hl.1, hl.2.1, fun i v hi => ?_⟩
  rw [← hL] at hi
  have hi2 : av[i]? = some v := by
    by_cases h9 : i < (av.map some).length
    · rw [List.getElem?_append_left h9, List.getElem?_map] at hi
      cases h8 : av[i]? with
      | none => rw [h8] at hi; simp at hi
      | some w => rw [h8] at hi; simpa using hi
    · rw [List.getElem?_append_right (by omega), List.getElem?_replicate] at hi
      split at hi <;> simp at hi
  have := hargs (av.map (rv g)) 0 hcat' i (rv g v) (by rw [List.getElem?_map, hi2]; rfl)
  rw [Nat.zero_add] at this
  exact hl.2.2 _ this
/-- a contract out of a walk (no table) -/
theorem Ct.of {na : Nat} {LL : List (Option Value)} (hm : MOk y na) (ho : wok (.code y cb nL ret)) (hcat : av.all (fun v => v.category == 1) = true) (hlen : av.length ≤ nL) (hL : av.map some ++ List.replicate (nL - av.length) none = LL)
    (body : ∀ Wk : tW, OkM y.cls cb nL d mc ms ret [] (y.name == "<init>") r H' Wk → Wk 0 0 0 LL [] H) : Ct d mc ms y (.code y cb nL ret) av H r H' := by
  intro l sL g D ca hG
  refine vx_ofW hm.2.2.1 rfl ?_
  intro p e s m args below meth c s₁ B hml htab hP
  obtain ⟨rfl, hW, hz, hlow, hwd⟩ := hP
  have hown : s.vm.findClass y.cls = some m.cls := findClass_of_methodNamed B.named
  have X : Cx p l (rmD d mc ms) s m meth c g ca D sL y.cls cb nL d mc ms := ⟨hG, hW, hz, hlow, B.exec, B.bytes, hml, hown, B.notSynchronized, Nat.le_refl _, Nat.le_refl _, Nat.le_refl _, Nat.le_refl _⟩
  have ht : c.exceptionTable.toList = tableOf [] := by
    cases h : c.exceptionTable.toList with
    | nil => rfl
    | cons a t => exact (htab a (by rw [h]; exact List.mem_cons_self)).elim
  have h := body (vW p l e (rmD d mc ms) s m (av.map (rv g)).toArray below meth c (vx_MQ below (qR g ca D r H') (qX g ca D r H') (av.map (rv g)).toArray s mc ms (aD g)) g ca D nL) ⟨p, l, e, rmD d mc ms, s, m, (av.map (rv g)).toArray, below, meth, c, g, ca, D, sL, X, ht, B.returns, fun hi => by rw [(name_of_methodNamed B.named B.method).1]; exact of_decide_eq_true (by simpa using hi), rfl⟩
  show W p l e (rmD d mc ms) s m _ below meth c s.heap [] 0 0 _ (entryFrame m (av.map (rv g)).toArray nL)
  rw [lg_entry_eq]
  exact h s.heap [] _ hwd va_S.rf (entry_lH hcat hlen hL)
/-- a contract out of a walk (with a table) -/
theorem Ct.ofH {na : Nat} {LL : List (Option Value)} (hm : MOk y na) (ho : wok (.codeWith y cb nL ret tab)) (hcat : av.all (fun v => v.category == 1) = true) (hlen : av.length ≤ nL) (hL : av.map some ++ List.replicate (nL - av.length) none = LL)
    (body : ∀ Wk : tW, OkM y.cls cb nL d mc ms ret tab (y.name == "<init>") r H' Wk → Wk 0 0 0 LL [] H) : Ct d mc ms y (.codeWith y cb nL ret tab) av H r H' := by
  intro l sL g D ca hG
  refine vx_ofWH hm.2.2.1 rfl ?_
  intro p e s m args below meth c s₁ B hml hP
  obtain ⟨rfl, hW, hz, hlow, hwd⟩ := hP
  have hown : s.vm.findClass y.cls = some m.cls := findClass_of_methodNamed B.named
  have X : Cx p l (rmD d mc ms) s m meth c g ca D sL y.cls cb nL d mc ms := ⟨hG, hW, hz, hlow, B.exec, B.bytes, hml, hown, B.notSynchronized, Nat.le_refl _, Nat.le_refl _, Nat.le_refl _, Nat.le_refl _⟩
  have ht : c.exceptionTable.toList = tableOf tab := vx_table (x := y) B (X.word ho _)
  have h := body (vW p l e (rmD d mc ms) s m (av.map (rv g)).toArray below meth c (vx_MQ below (qR g ca D r H') (qX g ca D r H') (av.map (rv g)).toArray s mc ms (aD g)) g ca D nL) ⟨p, l, e, rmD d mc ms, s, m, (av.map (rv g)).toArray, below, meth, c, g, ca, D, sL, X, ht, B.returns, fun hi => by rw [(name_of_methodNamed B.named B.method).1]; exact of_decide_eq_true (by simpa using hi), rfl⟩
  show W p l e (rmD d mc ms) s m _ below meth c s.heap [] 0 0 _ (entryFrame m (av.map (rv g)).toArray nL)
  rw [lg_entry_eq]
  exact h s.heap [] _ hwd va_S.rf (entry_lH hcat hlen hL)
end
