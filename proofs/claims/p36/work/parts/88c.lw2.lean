/-! ===== p36: the law's level, what is made ===== -/
section
variable {T : TxT} {F : FxT} {own : String} {cc : ByteArray} {nL d kc ks : Nat} {Wk : lW} {k n pc q : Nat} {L : List (Option Value)} {S St : List Value} {H H' : aH} {ws w1 w2 : WL} {Pr : PrT}
variable {y : MethodName} {cb : ByteArray} {mL na idx d' mc ms a ci B j : Nat} {rt : Option FieldType} {av fs : List Value} {tab : List (Nat × Nat × Nat × Nat)}
theorem CoL.wd (C : CoL T F own cc nL d kc ks Wk) {k' n' : Nat} (hk : k ≤ k') (hn : n ≤ n') (kk : Wk k' n' pc L S ws) : Wk k n pc L S ws := by
  obtain ⟨p, l, e, R, s, m, args, below, meth, c, Q, g, ca, D, sL, X, hE, rfl⟩ := C
  intro Hr locs ls hN hS hl
  exact W.widen hk hn (kk Hr locs ls hN hS hl)
theorem CoL.rm (C : CoL T F own cc nL d kc ks Wk) {x : Nat × aH} (kk : Wk k n pc L S (w1 ++ w2)) : Wk k n pc L S (w1 ++ x :: w2) := by
  obtain ⟨p, l, e, R, s, m, args, below, meth, c, Q, g, ca, D, sL, X, hE, rfl⟩ := C
  intro Hr locs ls hN hS hl
  exact kk Hr locs ls (wL_rm w1 hN) hS hl
theorem wL_uf {ca : Nat → ClassId} {D : va_G} {Hr : Heap} {N : Nat} {f : Nat → mC} : ∀ (w1 : WL) {lo : Nat}, wL ca D (w1 ++ [(B, (true, N, f))]) lo Hr → wL ca D (w1 ++ [(B, (false, N, f))]) lo Hr
  | [], _, hw => ⟨hw.1, ⟨hw.2.1.1, hw.2.1.2.1, fun h => nomatch h⟩, hw.2.2⟩
  | x :: w1, _, hw => ⟨hw.1, hw.2.1, wL_uf w1 hw.2.2⟩
theorem CoL.uf (C : CoL T F own cc nL d kc ks Wk) {N : Nat} {f : Nat → mC} (kk : Wk k n pc L S (w1 ++ [(B, (false, N, f))])) : Wk k n pc L S (w1 ++ [(B, (true, N, f))]) := by
  obtain ⟨p, l, e, R, s, m, args, below, meth, c, Q, g, ca, D, sL, X, hE, rfl⟩ := C
  intro Hr locs ls hN hS hl
  exact kk Hr locs ls (wL_uf w1 hN) hS hl
/-- equal cells within a part -/
theorem wL_st {ca : Nat → ClassId} {D : va_G} {Hr : Heap} {N : Nat} {b : Bool} {f f' : Nat → mC} (h : ∀ i, i < N → f i = f' i) : ∀ (w1 : WL) {lo : Nat}, wL ca D (w1 ++ [(B, (b, N, f))]) lo Hr → wL ca D (w1 ++ [(B, (false, N, f'))]) lo Hr
  | [], _, hw => ⟨hw.1, ⟨hw.2.1.1, by have h9 := hw.2.1.2.1; show va_P D vwCl (rW (B, 0) ca N f') Hr; rw [← rW_same h]; exact h9, fun h => nomatch h⟩, hw.2.2⟩
  | x :: w1, _, hw => ⟨hw.1, hw.2.1, wL_st h w1 hw.2.2⟩
theorem CoL.stl (C : CoL T F own cc nL d kc ks Wk) {N : Nat} {b : Bool} {f f' : Nat → mC} (h : ∀ i, i < N → f i = f' i) (kk : Wk k n pc L S (w1 ++ [(B, (false, N, f'))])) : Wk k n pc L S (w1 ++ [(B, (b, N, f))]) := by
  obtain ⟨p, l, e, R, s, m, args, below, meth, c, Q, g, ca, D, sL, X, hE, rfl⟩ := C
  intro Hr locs ls hN hS hl
  exact kk Hr locs ls (wL_st h w1 hN) hS hl
theorem CoL.ldcs (C : CoL T F own cc nL d kc ks Wk) {tx : String} (hq0 : (idx, tx) ∈ lwS) (dg : decode cc pc = .ok (.ldc idx, 2)) (hq : pc + 2 = q) (kk : ∀ sa sd : Nat, CoL ((sa, sd, cds tx) :: T) F own cc nL d kc ks Wk → Wk k n q L (.ref (sa + 1000) :: S) ws) : Wk k n pc L S ws := by
  obtain ⟨p, l, e, R, s, m, args, below, meth, c, Q, g, ca, D, sL, X, hE, rfl⟩ := C
  subst hq
  intro Hr locs ls hN hS hl
  obtain ⟨sa, sd, h1, h2⟩ := hE.2.2.2.1 _ hq0
  have h := kk sa sd ⟨p, l, e, R, s, m, args, below, meth, c, Q, g, ca, D, sL, X, ⟨hE.1, hE.2.1, hE.2.2.1, hE.2.2.2.1, fun x hx => by
    rcases List.mem_cons.mp hx with rfl | hx
    · exact h2
    · exact hE.2.2.2.2 x hx⟩, rfl⟩ Hr locs ls hN hS hl
  rw [List.map_cons, rv_out] at h
  exact va_ldcS X.exec X.code X.ow h1 dg h
/-- new: an object at the heap's end -/
theorem CoL.new (C : CoL T F own cc nL d kc ks Wk) {N : Nat} {C0 : String} (hC : COk ci C0 N fs) (hu : unF ws) (hk : wok (.classLink own idx C0)) (ha : wok (.instantiable C0 N)) (hw : wok (.initialized C0)) (hkc : k + 1 ≤ kc) (hks : n + N ≤ ks)
    (dg : decode cc pc = .ok (.new idx, 3)) (hq : pc + 3 = q) (kk : ∀ B : Nat, Wk (k + 1) (n + N) q L (.ref (B + 1000) :: S) (ws ++ [(B, hp [.inr (ci, fs)])])) : Wk k n pc L S ws := by
  obtain ⟨p, l, e, R, s, m, args, below, meth, c, Q, g, ca, D, sL, X, hE, rfl⟩ := C
  subst hq
  intro Hr locs ls hN hS hl
  obtain ⟨Tt, ty0, h1, h2, h3, h4⟩ := hC
  have hKn := X.K.1 ci _ h1
  refine W.newcK X.exec X.code X.ow (X.word hk args) (X.word ha args) (X.word hw args) rfl dg (Nat.le_trans hkc X.cells) (Nat.le_trans hks X.slots) hKn.2.1 rfl fun H1 kC hkC e1 z1 o1 => ?_
  have h0 : wld (Hr.size, 0) ca D (hp []) Hr := ⟨Nat.zero_le _, fun k q hk => (nomatch hk), fun _ => rfl⟩
  have hw1 := wld_push (c := .inr (ci, fs)) h0 rfl (by decide : (hp []).2.1 < 131) ⟨_, h1, (u_born ty0 (fun w hw => X.word ⟨h2 w hw, u_good hw⟩ args) (fun w hw => hw) hKn hkC e1 h3).to (fun j hj => by rw [vp_V_map, ← h4 j hj, rv_default])⟩ z1 o1
  rw [hp_push] at hw1
  have h := kk Hr.size H1 locs ls (wL_top hw1 (by show Hr.size + 1 ≤ H1.size; omega) (fun q hq _ => o1 q hq) ws hu (wL_open ws hN)) ⟨Nat.le_trans hS.1 (by omega), fun x h1 h2 => (o1 x (Nat.lt_of_lt_of_le h1 hS.1)).trans (hS.2.1 x h1 h2), hS.2.2⟩ hl
  rw [List.map_cons, rv_out] at h
  exact h
theorem lw_top {ca : Nat → ClassId} {D : va_G} {Hr H1 : Heap} {lo : Nat} (hu : unF w1) (h0 : 0 < H'.2.1) (hw : wL ca D (w1 ++ [(B, H)]) lo Hr) (h1 : wld (B, 0) ca D H' H1) (hk : ∀ q : Nat, q < Hr.size → ¬ aD (B, 0) q → H1[q]? = Hr[q]?) : wL ca D (w1 ++ [(B, H')]) lo H1 :=
  wL_top h1 (by have h2 := wld_lt h1 (k := H'.2.1 - 1) (by omega); have h3 : B + (H'.2.1 - 1) < H1.size := h2; omega) (fun q hq h2 => hk q hq (fun h3 => by have h4 : B ≤ q := h3.1; omega)) w1 hu hw
/-- the constructor of what lies at the heap's end -/
theorem CoL.tI (C : CoL T F own cc nL d kc ks Wk) (hok : prOk Pr) (hsrc : Src T F (w1 ++ [(B, H)]) B (fun _ => 0) Pr) (hu : unF w1) (h0 : 0 < H'.2.1) (hm : IM y cb mL na) (hw : wok (.methodLink own idx y)) (hc : CtG Pr d' mc ms y (.code y cb mL none) (.ref 0 :: av) H (.inl none) H') (hav : fixV av)
    (hst : St = av.reverse ++ .ref (B + 1000) :: S) (hd : d' + 1 ≤ d) (hna : av.length = na) (hsum : (S.map fun v => v.category).sum ≤ 8) (hk : k + mc ≤ kc) (hn : n + ms ≤ ks) (dg : decode cc pc = .ok (.invokespecial idx, 3)) (hq : pc + 3 = q)
    (kk : Wk (k + mc) (n + ms) q L S (w1 ++ [(B, H')])) : Wk k n pc L St (w1 ++ [(B, H)]) := by
  obtain ⟨p, l, e, R, s, m, args, below, meth, c, Q, g, ca, D, sL, X, hE, rfl⟩ := C
  subst hq; subst hst
  intro Hr locs ls hN hS hl
  have hlo := wL_lo w1 hN
  have hg : g = (s.heap.size, 0) := hE.1
  have hlo1 : s.heap.size ≤ B := by have := hlo.1; rw [hg] at this; exact this
  have hX : Gl l sL (s.heap.size, 0) D ca := by have := X.gl; rw [hg] at this; exact this
  have hBs : B ≤ Hr.size := by
    have h9 := wL_size _ (show wL ca D ([(B, H)] : WL) B Hr from ?_)
    · exact h9
    · have : ∀ (w : WL) (lo : Nat), wL ca D (w ++ [(B, H)]) lo Hr → wL ca D ([(B, H)] : WL) B Hr := by
        intro w
        induction w with
        | nil => intro lo h; exact ⟨Nat.le_refl _, h.2⟩
        | cons x w ih => intro lo h; exact ih _ h.2.2
      exact this w1 _ hN
  have hPr := fun U hU hal => hsrc s U g own ca D Hr locs hE X.K (fun w x hw => X.word hw x) hN hS hlo1 hU hal
  have hpre := X.lpre (g' := (B, 0)) (av := .ref 0 :: av) hok hS ⟨hBs, Nat.zero_le _⟩ (wld_g hlo.2) hPr
  rw [rv_args (g' := (B, 0)) hav rfl]
  exact lrun_done (X.lI (gl_at hX hlo1) hm hw hc hd hna hpre hsum hk hn dg hl) hS (by rw [hg]; exact aD_sub hlo1) (fun H1 locs1 k1 k2 k3 k4 => kk H1 locs1 ls (lw_top hu h0 hN k1 k3) k4 hl)
/-- a virtual call of what lies at the heap's end: it answers one of its own cells -/
theorem CoL.tV (C : CoL T F own cc nL d kc ks Wk) (hok : prOk Pr) (hsrc : Src T F (w1 ++ [(B, H)]) B (fun _ => 0) Pr) (hu : unF w1) (h0 : 0 < H'.2.1) (h00 : 0 < H.2.1) (hj : j < 131) (hm : VM y cb mL rt na ci) (hw : wok (.methodLink own idx y)) (hc : CtG Pr d' mc ms y (.code y cb mL rt) (.ref 0 :: av) H (.inl (some (.ref j))) H') (hH : H.2.2 0 = .inr (ci, fs)) (hav : fixV av)
    (hst : St = av.reverse ++ .ref (B + 1000) :: S) (hd : d' + 1 ≤ d) (hna : av.length = na) (hsum : (S.map fun v => v.category).sum ≤ 8) (hk : k + mc ≤ kc) (hn : n + ms ≤ ks) (dg : decode cc pc = .ok (.invokevirtual idx, 3)) (hq : pc + 3 = q)
    (kk : Wk (k + mc) (n + ms) q L (.ref (B + j + 1000) :: S) (w1 ++ [(B, H')])) : Wk k n pc L St (w1 ++ [(B, H)]) := by
  obtain ⟨p, l, e, R, s, m, args, below, meth, c, Q, g, ca, D, sL, X, hE, rfl⟩ := C
  subst hq; subst hst
  intro Hr locs ls hN hS hl
  have hlo := wL_lo w1 hN
  have hg : g = (s.heap.size, 0) := hE.1
  have hlo1 : s.heap.size ≤ B := by have := hlo.1; rw [hg] at this; exact this
  have hX : Gl l sL (s.heap.size, 0) D ca := by have := X.gl; rw [hg] at this; exact this
  have hT := wld_lt hlo.2 (k := 0) h00
  have hPr := fun U hU hal => hsrc s U g own ca D Hr locs hE X.K (fun w x hw => X.word hw x) hN hS hlo1 hU hal
  have hpre := X.lpre (g' := (B, 0)) (av := .ref 0 :: av) hok hS ⟨by have h9 : B + 0 < Hr.size := hT; show B ≤ Hr.size; omega, Nat.zero_le _⟩ (wld_g hlo.2) hPr
  rw [rv_args (g' := (B, 0)) hav rfl]
  refine lrun_done (X.lV (gl_at hX hlo1) hm hw hc hd hna hpre (wld_g hlo.2) h00 hH hsum hk hn dg hl) hS (by rw [hg]; exact aD_sub hlo1) (fun H1 locs1 k1 k2 k3 k4 => ?_)
  have h := kk H1 locs1 ls (lw_top hu h0 hN k1 k3) k4 hl
  rw [List.map_cons, rv_out] at h
  show W _ _ _ _ _ _ _ _ _ _ _ _ _ _ _ (F0 m (pc + 3) ls (.ref (ra (B, 0) j) :: S.map (rv g)))
  rw [ra_lt hj]
  exact h
/-- a static method that makes its object at the heap's end, out of things outside -/
theorem CoL.tB (C : CoL T F own cc nL d kc ks Wk) (hok : prOk Pr) (hsrc : ∀ B, Src T F (ws ++ [(B, hp [])]) B (fun _ => 0) Pr) (hu : unF ws) (h0 : 0 < H'.2.1) (hm : SM y cb mL rt na) (hw : wok (.methodLink own idx y)) (hc : CtG Pr d' mc ms y (.code y cb mL rt) av (hp []) (.inl (some (.ref 0))) H') (hav : fixV av)
    (hst : St = av.reverse ++ S) (hd : d' + 1 ≤ d) (hna : av.length = na) (hsum : (S.map fun v => v.category).sum ≤ 8) (hk : k + mc ≤ kc) (hn : n + ms ≤ ks) (dg : decode cc pc = .ok (.invokestatic idx, 3)) (hq : pc + 3 = q)
    (kk : ∀ B : Nat, Wk (k + mc) (n + ms) q L (.ref (B + 1000) :: S) (ws ++ [(B, H')])) : Wk k n pc L St ws := by
  obtain ⟨p, l, e, R, s, m, args, below, meth, c, Q, g, ca, D, sL, X, hE, rfl⟩ := C
  subst hq; subst hst
  intro Hr locs ls hN0 hS hl
  have hN := wL_open ws hN0
  have hlo := wL_lo ws hN
  have hg : g = (s.heap.size, 0) := hE.1
  have hlo1 : s.heap.size ≤ Hr.size := hS.1
  have hX : Gl l sL (s.heap.size, 0) D ca := by have := X.gl; rw [hg] at this; exact this
  have hPr := fun U hU hal => hsrc Hr.size s U g own ca D Hr locs hE X.K (fun w x hw => X.word hw x) hN hS hlo1 hU hal
  have hpre := X.lpre (g' := (Hr.size, 0)) (av := av) hok hS ⟨Nat.le_refl _, Nat.zero_le _⟩ (wld_g hlo.2) hPr
  rw [List.map_append, List.map_reverse, hav g (Hr.size, 0)]
  refine lrun_done (X.lS (gl_at hX hlo1) hm hw hc hd hna hpre hsum hk hn dg hl) hS (by rw [hg]; exact aD_sub hlo1) (fun H1 locs1 k1 k2 k3 k4 => ?_)
  have h := kk Hr.size H1 locs1 ls (lw_top hu h0 hN k1 k3) k4 hl
  rw [List.map_cons, rv_out] at h
  exact h
/-- a static method that reads things outside alone -/
theorem CoL.tA {w : Value} (C : CoL T F own cc nL d kc ks Wk) (hok : prOk Pr) (hsrc : ∀ B, Src T F (ws ++ [(B, hp [])]) B (fun _ => 0) Pr) (hu : unF ws) (hm : SM y cb mL rt na) (hw : wok (.methodLink own idx y)) (hc : CtG Pr d' mc ms y (.code y cb mL rt) av (hp []) (.inl (some w)) (hp [])) (hav : fixV av) (hwv : fixV [w])
    (hst : St = av.reverse ++ S) (hd : d' + 1 ≤ d) (hna : av.length = na) (hsum : (S.map fun v => v.category).sum ≤ 8) (hk : k + mc ≤ kc) (hn : n + ms ≤ ks) (dg : decode cc pc = .ok (.invokestatic idx, 3)) (hq : pc + 3 = q)
    (kk : Wk (k + mc) (n + ms) q L (w :: S) ws) : Wk k n pc L St ws := by
  obtain ⟨p, l, e, R, s, m, args, below, meth, c, Q, g, ca, D, sL, X, hE, rfl⟩ := C
  subst hq; subst hst
  intro Hr locs ls hN0 hS hl
  have hN := wL_open ws hN0
  have hlo := wL_lo ws hN
  have hg : g = (s.heap.size, 0) := hE.1
  have hlo1 : s.heap.size ≤ Hr.size := hS.1
  have hX : Gl l sL (s.heap.size, 0) D ca := by have := X.gl; rw [hg] at this; exact this
  have hPr := fun U hU hal => hsrc Hr.size s U g own ca D Hr locs hE X.K (fun w x hw => X.word hw x) hN hS hlo1 hU hal
  have hpre := X.lpre (g' := (Hr.size, 0)) (av := av) hok hS ⟨Nat.le_refl _, Nat.zero_le _⟩ (wld_g hlo.2) hPr
  rw [List.map_append, List.map_reverse, hav g (Hr.size, 0)]
  refine lrun_done (X.lS (gl_at hX hlo1) hm hw hc hd hna hpre hsum hk hn dg hl) hS (by rw [hg]; exact aD_sub hlo1) (fun H1 locs1 k1 k2 k3 k4 => ?_)
  have h := kk H1 locs1 ls (wL_keep ws hu k2 (fun q hq h2 => k3 q hq (fun h3 => by have h4 : Hr.size ≤ q := h3.1; omega)) hN0) k4 hl
  have e9 : rv (Hr.size, 0) w = rv g w := by have := hwv (Hr.size, 0) g; simpa using this
  show W _ _ _ _ _ _ _ _ _ _ _ _ _ _ _ (F0 m (pc + 3) ls (rv (Hr.size, 0) w :: S.map (rv g)))
  rw [e9]
  exact h
theorem Ct.g {w : Cond} {r : rR} (h : Ct d' mc ms y w av H r H') : CtG (fun _ _ => True) d' mc ms y w av H r H' := by
  intro l sL g D ca hG
  exact Jvm.Free.MetFree.mono (h l sL g D ca hG) (fun a U hP => hP.1) (fun _ _ _ _ _ h => h) (fun a st o t _ h4 => h4)
theorem prT_ok : prOk (fun _ _ => True) := fun _ _ _ _ _ _ => trivial
end
