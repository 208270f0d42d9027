/-! ===== p36: the law's level, calls ===== -/
/-- where a callee's knowledge of things outside its frame (a, P) comes from -/
def Src (T : TxT) (F : FxT) (ws : WL) (a : Nat) (P : Heap → Nat) (Pr : PrT) : Prop :=
  ∀ (s U : State) (g : Nat × Nat) (own : String) (ca : Nat → ClassId) (D : va_G) (Hr : Heap) (locs : List Loc), ExF T F own s g → va_K D vwCl (tys ca) s → (∀ (w : Cond) (x : Array Value), wok w → w.before x s = true) → wL ca D ws g.1 Hr → va_S (aD g) s.heap Hr locs → s.heap.size ≤ a → U.heap = Hr → s.vm.Alike U.vm → Pr (a, P Hr) U
section
variable {T : TxT} {F : FxT} {ws : WL} {a : Nat} {P : Heap → Nat}
theorem src_0 : Src T F ws a P (fun _ _ => True) := fun _ _ _ _ _ _ _ _ _ _ _ _ _ _ _ _ => trivial
theorem src_out {Pr : PrT} (hok : prOk Pr) (hnr : prNr Pr) (h0 : ∀ s g own, ExF T F own s g → Pr g s) : Src T F ws a P Pr := by
  intro s U g own ca D Hr locs hE hK hW hw hS ha hU hal
  have hg := hE.1
  have h1 := hok g s U (h0 s g own hE) hal (fun q hq hA => by rw [hU]; exact hS.2.1 q hq hA)
  exact hnr g (a, P Hr) U h1 (fun q hq => by rw [hg]; exact ⟨Nat.le_trans ha hq.1, Or.inr (Nat.zero_le _)⟩)
theorem src_G : Src T F ws a P (PrG F.2.2.2.1 F.2.2.2.2) := src_out prG_ok prG_nr (fun _ _ _ h => h.2.2.1)
theorem src_X : Src T F ws a P (PrX F.1 F.2.1 F.2.2.1) := src_out prX_ok prX_nr (fun _ _ _ h => h.2.1)
theorem src_S {q : Nat × Nat × List Int32} (hq : q ∈ T) : Src T F ws a P (PrS q.1 q.2.1 q.2.2) := src_out prS_ok prS_nr (fun _ _ _ h => h.2.2.2.2 q hq)
def PrGS (t1 t2 sa sd : Nat) (tx : List Int32) : PrT := fun g U => PrG t1 t2 g U ∧ PrS sa sd tx g U
theorem prGS_ok {t1 t2 sa sd : Nat} {tx : List Int32} : prOk (PrGS t1 t2 sa sd tx) := fun g U U' h hal hk => ⟨prG_ok g U U' h.1 hal hk, prS_ok g U U' h.2 hal hk⟩
theorem prGS_nr {t1 t2 sa sd : Nat} {tx : List Int32} : prNr (PrGS t1 t2 sa sd tx) := fun g g' U h hAB => ⟨prG_nr g g' U h.1 hAB, prS_nr g g' U h.2 hAB⟩
theorem src_GS {q : Nat × Nat × List Int32} (hq : q ∈ T) : Src T F ws a P (PrGS F.2.2.2.1 F.2.2.2.2 q.1 q.2.1 q.2.2) := src_out prGS_ok prGS_nr (fun _ _ _ h => ⟨h.2.2.1, h.2.2.2.2 q hq⟩)
/-- a text that lies in the last part of the world -/
theorem src_top {w1 w2 : WL} {H HB : aH} {B i : Nat} {t : List Int32} (hws : ws = w1 ++ (a, H) :: (w2 ++ [(B, HB)])) (hz : H.2.1 = 131) (h0 : HB.2.2 i = stO (i + 1)) (h1 : HB.2.2 (i + 1) = arB t.length (ft t)) (hi : i + 1 < HB.2.1) (ht : t.length < 2147483648) : Src T F ws a (fun Hr => Hr.size) (PrS (B + i) (B + (i + 1)) t) := by
  intro s U g own ca D Hr locs hE hK hW hw hS ha hU hal
  subst hws
  have hB : a + 131 ≤ B ∧ wld (B, 0) ca D HB Hr := by
    have e1 : w1 ++ (a, H) :: (w2 ++ [(B, HB)]) = (w1 ++ [(a, H)]) ++ (w2 ++ [(B, HB)]) := by simp
    have h2 : ∀ (w : WL) (lo : Nat), wL ca D (w ++ (a, H) :: (w2 ++ [(B, HB)])) lo Hr → wL ca D (w2 ++ [(B, HB)]) (a + H.2.1) Hr := by
      intro w
      induction w with
      | nil => intro lo h; exact h.2.2
      | cons x w ih => intro lo h; exact ih _ h.2.2
    have h3 := wL_lo w2 (h2 w1 _ hw)
    rw [hz] at h3
    exact h3
  obtain ⟨hB1, hB2⟩ := hB
  have g1 := hE.2.2.1
  have hG : PrG F.2.2.2.1 F.2.2.2.2 (a, Hr.size) U := src_G (ws := w1 ++ (a, H) :: (w2 ++ [(B, HB)])) (P := fun Hr => Hr.size) s U g own ca D Hr locs hE hK hW hw hS ha hU hal
  have hi0 : i < HB.2.1 := by omega
  have l0 := wld_lt hB2 hi0
  have l1 := wld_lt hB2 hi
  have nA : ∀ q : Nat, B ≤ q → q < Hr.size → ¬ aD (a, Hr.size) q := fun q h2 h3 h4 => by
    obtain ⟨h5, h6⟩ := h4
    have h7 : q < a + 131 ∨ Hr.size ≤ q := h6
    omega
  have hob := hB2.2.1 i _ (rW_get hi0)
  rw [h0] at hob
  obtain ⟨r, e1, cell, q1, q2, q3, q4⟩ := hob
  cases e1
  obtain ⟨hSl, hfc, kC, hkC, hkind⟩ := hK.1 0 (RJ0, TJ0, 4) rfl
  have har := hB2.2.1 (i + 1) _ (rW_get hi)
  rw [h1] at har
  have hOF : ∀ (k : Nat), k < 4 → ∀ v : Value, vp_V ([Value.ref (ra (B, 0) (i + 1)), .int 0, .int 0, .int 0]) k = v → va_OF (TJ0 k).1 (TJ0 k).2.1 (TJ0 k).2.2.1 v (B + i) (aD (a, Hr.size)) U U.heap := by
    intro k hk v hv
    obtain ⟨cf, kf, fi, f, hi9, hsl⟩ := hSl k hk
    have hst := (u_facts hfc hkC (u_lays (ws := u_ws RJ0 TJ0 4) (args := #[]) (fun w hw => hW w #[] ⟨inJ0 w hw, u_good hw⟩) (fun _ h => h) hk) hi9).1
    have h8 : va_OF (TJ0 k).1 (TJ0 k).2.1 (TJ0 k).2.2.1 v (B + i) (aD (a, Hr.size)) s U.heap := by
      refine ⟨cf, kf, fi, f, cell, hi9, hst, by rw [hU]; exact q1, by rw [q3]; exact fun h => (nomatch h), ?_, nA _ (Nat.le_add_right _ _) l0⟩
      rw [hsl, q4 k hk, ← hv]
      rfl
    exact va_OF.moved hal h8
  refine ⟨⟨cell, by rw [hU]; exact q1, by rw [q3]; rfl, by rw [hal.findClass, q2]; exact hfc, nA _ (Nat.le_add_right _ _) l0⟩, hOF 1 (by decide) _ rfl, ?_, ?_, hG.1, hG.2.2.2.2.2⟩
  · have h9 := hOF 0 (by decide) (.ref (B + (i + 1))) (by
      show Value.ref (ra (B, 0) (i + 1)) = _
      rw [ra_lt (by have := hB2.1; omega)])
    exact h9
  · refine ⟨arrV (ca 2) t.length (fun j => .int (ft t j)), by rw [hU]; exact har, State.isArrayOf_alike hal ((hK.2 2 (ca 2, .byte) rfl).1 t.length (fun j => .int (ft t j))), (fun h => nomatch h), by rw [arrV_size]; exact Nat.le_refl _, (by rw [arrV_size]), fun z hz => arrV_read _ _ hz, nA _ (Nat.le_add_right _ _) l1⟩
end
section
variable {p : Program} {l : Launch} {e : Env} {R : Room} {s : State} {m : MethodId} {args : Array Value} {below : List Frame} {meth : Method} {c : Code} {Q : State → Prop} {g g' : Nat × Nat} {ca : Nat → ClassId} {D : va_G} {sL : State} {own : String} {cc : ByteArray} {nL d kc ks : Nat} {Pr : PrT}
theorem lrun_done {k n pc mc ms : Nat} {H' : aH} {Hr : Heap} {locs : List Loc} {ls : Array Slot} {st0 rest : List Value} {v : Option Value} {a : Array Value} (hr : vx_Run p l e R s m args below meth c Hr locs k n mc ms (F0 m pc ls st0) rest (qR g' ca D (.inl v) H' a) (qX g' ca D (.inl v) H') (aD g')) (hS : va_S (aD g) s.heap Hr locs) (hA : ∀ q, aD g' q → aD g q)
    (kk : ∀ (H1 : Heap) (locs1 : List Loc), wld g' ca D H' H1 → Hr.size ≤ H1.size → (∀ q : Nat, q < Hr.size → ¬ aD g' q → H1[q]? = Hr[q]?) → va_S (aD g) s.heap H1 locs1 → W p l e R s m args below meth c H1 locs1 (k + mc) (n + ms) Q (F0 m (pc + 3) ls ((v.map (rv g')).toList ++ rest))) : W p l e R s m args below meth c Hr locs k n Q (F0 m pc ls st0) := by
  intro T hT X
  rcases hr T hT X with ⟨v2, st₀, t, T', L, h0, X', hL, e1, e2, ⟨v3, hv3, ho, hw, hF⟩, st⟩ | ⟨q, st₀, t, T', L, E, ce, h0, X', hL, e1, e2, ⟨hv3, hw, hF⟩, hce, hcv, hcl, st⟩
  · cases hv3
    cases ho
    obtain ⟨k1, k2, k3⟩ := vx_keep h0 e1 hS (fun q _ h => hA q h) (fun q h => hA q h) hL hF
    obtain ⟨t2, a1, b1⟩ := kk T'.heap (locs ++ L) (by rw [e1]; exact hw) k1 k2 k3 T' rfl X'
    exact ⟨t2, st t2 a1, b1⟩
  · cases hv3
theorem Cx.lpre (X : Cx p l R s m meth c g ca D sL own cc nL d kc ks) (hok : prOk Pr) {av : List Value} {H : aH} {Hr : Heap} {locs : List Loc} (hS : va_S (aD g) s.heap Hr locs) (hz' : hz g' Hr.size) (hw : wld g' ca D H Hr) (hPr : ∀ U : State, U.heap = Hr → s.vm.Alike U.vm → Pr g' U) : PreS s Hr (fun a U => pC sL g' ca D av H a U ∧ Pr g' U) (av.map (rv g')) := by
  refine ⟨hok.blind, fun U hU hW => ⟨⟨rfl, X.warm.trans hW, by rw [hU]; exact hz', fun q hq => ?_, by rw [hU]; exact hw⟩, hPr U hU hW.alike⟩⟩
  rw [hU, hS.2.1 q (Nat.lt_of_lt_of_le hq (Nat.le_trans X.1.2.2.1 X.2.2.1.1)) (fun h => by have h9 : g.1 ≤ q := h.1; have := X.1.2.2.1; omega)]
  exact X.2.2.2.1 q hq
theorem Cx.lS (X : Cx p l R s m meth c g ca D sL own cc nL d kc ks) (hG : Gl l sL g' D ca) {y : MethodName} {cb : ByteArray} {mL na idx d' mc ms k n pc : Nat} {rt : Option FieldType} {av S : List Value} {H H' : aH} {r : rR} {Hr : Heap} {locs : List Loc} {ls : Array Slot} {L : List (Option Value)}
    (hm : SM y cb mL rt na) (hw : wok (.methodLink own idx y)) (hc : CtG Pr d' mc ms y (.code y cb mL rt) av H r H') (hd : d' + 1 ≤ d) (hna : av.length = na) (hpre : PreS s Hr (fun a U => pC sL g' ca D av H a U ∧ Pr g' U) (av.map (rv g')))
    (hsum : (S.map fun v => v.category).sum ≤ 8) (hk : k + mc ≤ kc) (hn : n + ms ≤ ks) (dg : decode cc pc = .ok (.invokestatic idx, 3)) (hl : lH g ls nL L) :
    vx_Run p l e R s m args below meth c Hr locs k n mc ms (F0 m pc ls ((av.map (rv g')).reverse ++ S.map (rv g))) (S.map (rv g)) (qR g' ca D r H' (av.map (rv g')).toArray) (qX g' ca D r H') (aD g') := by
  obtain ⟨h1, h2, h3, h5⟩ := hm
  exact vx_runS (As := av.map (rv g')) (rest := S.map (rv g)) (own := own) (Ts := []) ⟨X.exec, X.code, X.max, X.ow, fun _ h => nomatch h⟩ (hc l sL g' D ca hG) ⟨X.callB h1 h2 hw hd h5, X.word h3 args⟩ hpre rfl (by rw [List.length_map]; exact hna) hl.1
    rfl (lv_room (by rw [sum_rv]; exact hsum)) dg ⟨Nat.le_trans hk X.cells, Nat.le_trans hn X.slots⟩
theorem Cx.lSX (X : Cx p l R s m meth c g ca D sL own cc nL d kc ks) (hG : Gl l sL g' D ca) {y : MethodName} {cb : ByteArray} {mL na idx d' mc ms k n pc : Nat} {rt : Option FieldType} {tab : List (Nat × Nat × Nat × Nat)} {av S : List Value} {H H' : aH} {r : rR} {Hr : Heap} {locs : List Loc} {ls : Array Slot} {L : List (Option Value)}
    (hm : MOk y na) (ho : wok (.codeWith y cb mL rt tab)) (hv : wok (.static y)) (hmL : mL ≤ 45) (hw : wok (.methodLink own idx y)) (hc : CtG Pr d' mc ms y (.codeWith y cb mL rt tab) av H r H') (hd : d' + 1 ≤ d) (hna : av.length = na) (hpre : PreS s Hr (fun a U => pC sL g' ca D av H a U ∧ Pr g' U) (av.map (rv g')))
    (hsum : (S.map fun v => v.category).sum ≤ 8) (hk : k + mc ≤ kc) (hn : n + ms ≤ ks) (dg : decode cc pc = .ok (.invokestatic idx, 3)) (hl : lH g ls nL L) :
    vx_Run p l e R s m args below meth c Hr locs k n mc ms (F0 m pc ls ((av.map (rv g')).reverse ++ S.map (rv g))) (S.map (rv g)) (qR g' ca D r H' (av.map (rv g')).toArray) (qX g' ca D r H') (aD g') := by
  exact vx_runSX (hh := tab) (bytes := cb) (maxL := mL) (ret := rt) (n := na) (As := av.map (rv g')) (rest := S.map (rv g)) (own := own) (Ts := []) ⟨X.exec, X.code, X.max, X.ow, fun _ h => nomatch h⟩ (hc l sL g' D ca hG)
    ⟨⟨rfl, rfl, (X.room hd hmL (mc := mc) (ms := ms)).1, (X.room hd hmL (mc := mc) (ms := ms)).2, wok_keep ho.2 (X.word ho args), List.mem_cons_self⟩, X.word ho args, X.word hm.1 args, hm.2.1, fun sig h => by
      have h2 := hm.2.2.2
      rw [h] at h2
      exact (Option.some.inj h2).symm, X.word hw args, X.word hv args⟩ hpre rfl (by rw [List.length_map]; exact hna) hl.1
    rfl (lv_room (by rw [sum_rv]; exact hsum)) dg ⟨Nat.le_trans hk X.cells, Nat.le_trans hn X.slots⟩
theorem Cx.lV (X : Cx p l R s m meth c g ca D sL own cc nL d kc ks) (hG : Gl l sL g' D ca) {y : MethodName} {cb : ByteArray} {mL na idx d' mc ms k n pc ci : Nat} {rt : Option FieldType} {av S fs : List Value} {H H' : aH} {r : rR} {Hr : Heap} {locs : List Loc} {ls : Array Slot} {L : List (Option Value)}
    (hm : VM y cb mL rt na ci) (hw : wok (.methodLink own idx y)) (hc : CtG Pr d' mc ms y (.code y cb mL rt) (.ref 0 :: av) H r H') (hd : d' + 1 ≤ d) (hna : av.length = na) (hpre : PreS s Hr (fun a U => pC sL g' ca D (.ref 0 :: av) H a U ∧ Pr g' U) ((Value.ref 0 :: av).map (rv g'))) (hwl : wld g' ca D H Hr) (h0 : 0 < H.2.1) (hH : H.2.2 0 = .inr (ci, fs))
    (hsum : (S.map fun v => v.category).sum ≤ 8) (hk : k + mc ≤ kc) (hn : n + ms ≤ ks) (dg : decode cc pc = .ok (.invokevirtual idx, 3)) (hl : lH g ls nL L) :
    vx_Run p l e R s m args below meth c Hr locs k n mc ms (F0 m pc ls ((av.map (rv g')).reverse ++ .ref g'.1 :: S.map (rv g))) (S.map (rv g)) (qR g' ca D r H' ((Value.ref 0 :: av).map (rv g')).toArray) (qX g' ca D r H') (aD g') := by
  obtain ⟨h1, h2, h3, h4, h5, T, N, h6⟩ := hm
  have hrv : ∃ cell : Cell, Hr[g'.1]? = some cell ∧ cell.vm.isStatics = false ∧ s.vm.findClass y.cls = some cell.cls :=
    va_recv (q := (y.cls, T, N)) X.K hwl.2.1 (ci := ci) (q0 := 0) (fs := fs.map (rv g')) h6 (by rw [rW_get h0, hH]; rfl)
  exact vx_runV (b := g'.1) (As := av.map (rv g')) (rest := S.map (rv g)) (own := own) (Ts := []) ⟨X.exec, X.code, X.max, X.ow, fun _ h => nomatch h⟩ (hc l sL g' D ca hG) ⟨X.callB h1 h2 hw hd h5, X.word h3 args, X.word h4 args⟩ ⟨hpre.1, hrv, hpre.2⟩ rfl (by rw [List.length_map]; exact hna) hl.1
    rfl (lv_room (by rw [sum_rv]; exact hsum)) dg ⟨Nat.le_trans hk X.cells, Nat.le_trans hn X.slots⟩
theorem Cx.lI (X : Cx p l R s m meth c g ca D sL own cc nL d kc ks) (hG : Gl l sL g' D ca) {y : MethodName} {cb : ByteArray} {mL na idx d' mc ms k n pc : Nat} {av S : List Value} {H H' : aH} {r : rR} {Hr : Heap} {locs : List Loc} {ls : Array Slot} {L : List (Option Value)}
    (hm : IM y cb mL na) (hw : wok (.methodLink own idx y)) (hc : CtG Pr d' mc ms y (.code y cb mL none) (.ref 0 :: av) H r H') (hd : d' + 1 ≤ d) (hna : av.length = na) (hpre : PreS s Hr (fun a U => pC sL g' ca D (.ref 0 :: av) H a U ∧ Pr g' U) ((Value.ref 0 :: av).map (rv g')))
    (hsum : (S.map fun v => v.category).sum ≤ 8) (hk : k + mc ≤ kc) (hn : n + ms ≤ ks) (dg : decode cc pc = .ok (.invokespecial idx, 3)) (hl : lH g ls nL L) :
    vx_Run p l e R s m args below meth c Hr locs k n mc ms (F0 m pc ls ((av.map (rv g')).reverse ++ .ref g'.1 :: S.map (rv g))) (S.map (rv g)) (qR g' ca D r H' ((Value.ref 0 :: av).map (rv g')).toArray) (qX g' ca D r H') (aD g') := by
  obtain ⟨h1, h2, h3, h4, h5⟩ := hm
  exact vx_runI (b := g'.1) (As := av.map (rv g')) (rest := S.map (rv g)) (own := own) (Ts := []) ⟨X.exec, X.code, X.max, X.ow, fun _ h => nomatch h⟩ (hc l sL g' D ca hG) ⟨X.callB h1 h2 hw hd h4, h5, X.word h3 args⟩ hpre rfl (by rw [List.length_map]; exact hna) hl.1
    rfl (lv_room (by rw [sum_rv]; exact hsum)) dg ⟨Nat.le_trans hk X.cells, Nat.le_trans hn X.slots⟩
end
/-! the rules: a call on an object (its part of the world is (a, H)); P = the heap's size -/
/-- values that are the same in every frame -/
def fixV (av : List Value) : Prop := ∀ g g' : Nat × Nat, av.map (rv g) = av.map (rv g')
section
variable {T : TxT} {F : FxT} {own : String} {cc : ByteArray} {nL d kc ks : Nat} {Wk : lW} {k n pc q : Nat} {L : List (Option Value)} {S St : List Value} {H H' : aH} {w1 w2 : WL} {Pr : PrT}
variable {y : MethodName} {cb : ByteArray} {mL na idx d' mc ms a ci : Nat} {rt : Option FieldType} {av fs : List Value} {tab : List (Nat × Nat × Nat × Nat)}
theorem aD_sub {s0 a P : Nat} (h : s0 ≤ a) : ∀ q, aD (a, P) q → aD (s0, 0) q := fun q hq => ⟨Nat.le_trans h hq.1, Or.inr (Nat.zero_le _)⟩
theorem rv_args {g g' : Nat × Nat} (hav : fixV av) (hg : g'.1 = a) : ((av.reverse ++ .ref (a + 1000) :: S).map (rv g)) = (av.map (rv g')).reverse ++ .ref g'.1 :: S.map (rv g) := by
  rw [List.map_append, List.map_reverse, hav g g', hg]
  show _ ++ (rv g (.ref (a + 1000)) :: _) = _
  rw [rv_out]
theorem rv_args0 {g g' : Nat × Nat} (hav : fixV av) (hg : g'.1 = a) : ((av.reverse ++ .ref (a + 1000) :: S).map (rv g)) = ((Value.ref 0 :: av).map (rv g')).reverse ++ S.map (rv g) := by
  rw [rv_args hav hg]
  show _ = (rv g' (.ref 0) :: av.map (rv g')).reverse ++ _
  rw [List.reverse_cons, List.append_assoc]
  rfl
/-- behind a call on an object -/
theorem lw_upd {ca : Nat → ClassId} {D : va_G} {Hr H1 : Heap} {lo : Nat} (hu : unF (w1 ++ w2)) (hz1 : H.2.1 = 131) (hz : H'.2.1 = 131) (hw : wL ca D (w1 ++ (a, H) :: w2) lo Hr) (h1 : wld (a, Hr.size) ca D H' H1) (hs : Hr.size ≤ H1.size) (hk : ∀ q : Nat, q < Hr.size → ¬ aD (a, Hr.size) q → H1[q]? = Hr[q]?) : wL ca D (w1 ++ (a, H') :: w2) lo H1 :=
  wL_upd h1 (hz.trans hz1.symm) hs (fun q hq h2 => hk q hq (fun h3 => h2 (by
    obtain ⟨h4, h5⟩ := h3
    have h6 : q < a + 131 ∨ Hr.size ≤ q := h5
    exact ⟨h4, by omega⟩))) w1 hu hw
theorem CoL.cV {w : Value} (C : CoL T F own cc nL d kc ks Wk) (hok : prOk Pr) (hsrc : Src T F (w1 ++ (a, H) :: w2) a (fun Hr => Hr.size) Pr) (hu : unF (w1 ++ w2)) (hz1 : H.2.1 = 131) (hz2 : H'.2.1 = 131) (hm : VM y cb mL rt na ci) (hw : wok (.methodLink own idx y)) (hc : CtG Pr d' mc ms y (.code y cb mL rt) (.ref 0 :: av) H (.inl (some w)) H') (hH : H.2.2 0 = .inr (ci, fs)) (hav : fixV av) (hwv : fixV [w])
    (hst : St = av.reverse ++ .ref (a + 1000) :: S) (hd : d' + 1 ≤ d) (hna : av.length = na) (hsum : (S.map fun v => v.category).sum ≤ 8) (hk : k + mc ≤ kc) (hn : n + ms ≤ ks) (dg : decode cc pc = .ok (.invokevirtual idx, 3)) (hq : pc + 3 = q)
    (kk : Wk (k + mc) (n + ms) q L (w :: S) (w1 ++ (a, H') :: w2)) : Wk k n pc L St (w1 ++ (a, H) :: w2) := by
  obtain ⟨p, l, e, R, s, m, args, below, meth, c, Q, g, ca, D, sL, X, hE, rfl⟩ := C
  subst hq; subst hst
  intro Hr locs ls hN hS hl
  have hlo := wL_lo w1 hN
  have hg : g = (s.heap.size, 0) := hE.1
  have hlo1 : s.heap.size ≤ a := by have := hlo.1; rw [hg] at this; exact this
  have hT := wld_lt hlo.2 (k := 0) (by show 0 < H.2.1; omega)
  have hX : Gl l sL (s.heap.size, 0) D ca := by have := X.gl; rw [hg] at this; exact this
  have hPr := fun U hU hal => hsrc s U g own ca D Hr locs hE X.K (fun w x hw => X.word hw x) hN hS hlo1 hU hal
  have hpre := X.lpre (g' := (a, Hr.size)) (av := .ref 0 :: av) hok hS ⟨by show a ≤ Hr.size; have h9 : a + 0 < Hr.size := hT; omega, Nat.le_refl _⟩ (wld_g hlo.2) hPr
  rw [rv_args (g' := (a, Hr.size)) hav rfl]
  refine lrun_done (X.lV (gl_at hX hlo1) hm hw hc hd hna hpre (wld_g hlo.2) (by omega) hH hsum hk hn dg hl) hS (by rw [hg]; exact aD_sub hlo1) (fun H1 locs1 k1 k2 k3 k4 => ?_)
  have h := kk H1 locs1 ls (lw_upd hu hz1 hz2 hN k1 k2 k3) k4 hl
  have e9 : rv (a, Hr.size) w = rv g w := by have := hwv (a, Hr.size) g; simpa using this
  show W _ _ _ _ _ _ _ _ _ _ _ _ _ _ _ (F0 m (pc + 3) ls (rv (a, Hr.size) w :: S.map (rv g)))
  rw [e9]
  exact h
theorem CoL.cS {w : Value} (C : CoL T F own cc nL d kc ks Wk) (hok : prOk Pr) (hsrc : Src T F (w1 ++ (a, H) :: w2) a (fun Hr => Hr.size) Pr) (hu : unF (w1 ++ w2)) (hz1 : H.2.1 = 131) (hz2 : H'.2.1 = 131) (hm : SM y cb mL rt na) (hw : wok (.methodLink own idx y)) (hc : CtG Pr d' mc ms y (.code y cb mL rt) (.ref 0 :: av) H (.inl (some w)) H') (hav : fixV av) (hwv : fixV [w])
    (hst : St = av.reverse ++ .ref (a + 1000) :: S) (hd : d' + 1 ≤ d) (hna : (Value.ref 0 :: av).length = na) (hsum : (S.map fun v => v.category).sum ≤ 8) (hk : k + mc ≤ kc) (hn : n + ms ≤ ks) (dg : decode cc pc = .ok (.invokestatic idx, 3)) (hq : pc + 3 = q)
    (kk : Wk (k + mc) (n + ms) q L (w :: S) (w1 ++ (a, H') :: w2)) : Wk k n pc L St (w1 ++ (a, H) :: w2) := by
  obtain ⟨p, l, e, R, s, m, args, below, meth, c, Q, g, ca, D, sL, X, hE, rfl⟩ := C
  subst hq; subst hst
  intro Hr locs ls hN hS hl
  have hlo := wL_lo w1 hN
  have hg : g = (s.heap.size, 0) := hE.1
  have hlo1 : s.heap.size ≤ a := by have := hlo.1; rw [hg] at this; exact this
  have hT := wld_lt hlo.2 (k := 0) (by show 0 < H.2.1; omega)
  have hX : Gl l sL (s.heap.size, 0) D ca := by have := X.gl; rw [hg] at this; exact this
  have hPr := fun U hU hal => hsrc s U g own ca D Hr locs hE X.K (fun w x hw => X.word hw x) hN hS hlo1 hU hal
  have hpre := X.lpre (g' := (a, Hr.size)) (av := .ref 0 :: av) hok hS ⟨by show a ≤ Hr.size; have h9 : a + 0 < Hr.size := hT; omega, Nat.le_refl _⟩ (wld_g hlo.2) hPr
  rw [rv_args0 (g' := (a, Hr.size)) hav rfl]
  refine lrun_done (X.lS (gl_at hX hlo1) hm hw hc hd hna hpre hsum hk hn dg hl) hS (by rw [hg]; exact aD_sub hlo1) (fun H1 locs1 k1 k2 k3 k4 => ?_)
  have h := kk H1 locs1 ls (lw_upd hu hz1 hz2 hN k1 k2 k3) k4 hl
  have e9 : rv (a, Hr.size) w = rv g w := by have := hwv (a, Hr.size) g; simpa using this
  show W _ _ _ _ _ _ _ _ _ _ _ _ _ _ _ (F0 m (pc + 3) ls (rv (a, Hr.size) w :: S.map (rv g)))
  rw [e9]
  exact h
theorem CoL.cSv (C : CoL T F own cc nL d kc ks Wk) (hok : prOk Pr) (hsrc : Src T F (w1 ++ (a, H) :: w2) a (fun Hr => Hr.size) Pr) (hu : unF (w1 ++ w2)) (hz1 : H.2.1 = 131) (hz2 : H'.2.1 = 131) (hm : SM y cb mL rt na) (hw : wok (.methodLink own idx y)) (hc : CtG Pr d' mc ms y (.code y cb mL rt) (.ref 0 :: av) H (.inl none) H') (hav : fixV av)
    (hst : St = av.reverse ++ .ref (a + 1000) :: S) (hd : d' + 1 ≤ d) (hna : (Value.ref 0 :: av).length = na) (hsum : (S.map fun v => v.category).sum ≤ 8) (hk : k + mc ≤ kc) (hn : n + ms ≤ ks) (dg : decode cc pc = .ok (.invokestatic idx, 3)) (hq : pc + 3 = q)
    (kk : Wk (k + mc) (n + ms) q L S (w1 ++ (a, H') :: w2)) : Wk k n pc L St (w1 ++ (a, H) :: w2) := by
  obtain ⟨p, l, e, R, s, m, args, below, meth, c, Q, g, ca, D, sL, X, hE, rfl⟩ := C
  subst hq; subst hst
  intro Hr locs ls hN hS hl
  have hlo := wL_lo w1 hN
  have hg : g = (s.heap.size, 0) := hE.1
  have hlo1 : s.heap.size ≤ a := by have := hlo.1; rw [hg] at this; exact this
  have hT := wld_lt hlo.2 (k := 0) (by show 0 < H.2.1; omega)
  have hX : Gl l sL (s.heap.size, 0) D ca := by have := X.gl; rw [hg] at this; exact this
  have hPr := fun U hU hal => hsrc s U g own ca D Hr locs hE X.K (fun w x hw => X.word hw x) hN hS hlo1 hU hal
  have hpre := X.lpre (g' := (a, Hr.size)) (av := .ref 0 :: av) hok hS ⟨by show a ≤ Hr.size; have h9 : a + 0 < Hr.size := hT; omega, Nat.le_refl _⟩ (wld_g hlo.2) hPr
  rw [rv_args0 (g' := (a, Hr.size)) hav rfl]
  exact lrun_done (X.lS (gl_at hX hlo1) hm hw hc hd hna hpre hsum hk hn dg hl) hS (by rw [hg]; exact aD_sub hlo1) (fun H1 locs1 k1 k2 k3 k4 => kk H1 locs1 ls (lw_upd hu hz1 hz2 hN k1 k2 k3) k4 hl)
theorem CoL.cSX {w : Value} (C : CoL T F own cc nL d kc ks Wk) (hok : prOk Pr) (hsrc : Src T F (w1 ++ (a, H) :: w2) a (fun Hr => Hr.size) Pr) (hu : unF (w1 ++ w2)) (hz1 : H.2.1 = 131) (hz2 : H'.2.1 = 131) (hm : MOk y na) (ho : wok (.codeWith y cb mL rt tab)) (hv : wok (.static y)) (hmL : mL ≤ 45) (hw : wok (.methodLink own idx y)) (hc : CtG Pr d' mc ms y (.codeWith y cb mL rt tab) (.ref 0 :: av) H (.inl (some w)) H') (hav : fixV av) (hwv : fixV [w])
    (hst : St = av.reverse ++ .ref (a + 1000) :: S) (hd : d' + 1 ≤ d) (hna : (Value.ref 0 :: av).length = na) (hsum : (S.map fun v => v.category).sum ≤ 8) (hk : k + mc ≤ kc) (hn : n + ms ≤ ks) (dg : decode cc pc = .ok (.invokestatic idx, 3)) (hq : pc + 3 = q)
    (kk : Wk (k + mc) (n + ms) q L (w :: S) (w1 ++ (a, H') :: w2)) : Wk k n pc L St (w1 ++ (a, H) :: w2) := by
  obtain ⟨p, l, e, R, s, m, args, below, meth, c, Q, g, ca, D, sL, X, hE, rfl⟩ := C
  subst hq; subst hst
  intro Hr locs ls hN hS hl
  have hlo := wL_lo w1 hN
  have hg : g = (s.heap.size, 0) := hE.1
  have hlo1 : s.heap.size ≤ a := by have := hlo.1; rw [hg] at this; exact this
  have hT := wld_lt hlo.2 (k := 0) (by show 0 < H.2.1; omega)
  have hX : Gl l sL (s.heap.size, 0) D ca := by have := X.gl; rw [hg] at this; exact this
  have hPr := fun U hU hal => hsrc s U g own ca D Hr locs hE X.K (fun w x hw => X.word hw x) hN hS hlo1 hU hal
  have hpre := X.lpre (g' := (a, Hr.size)) (av := .ref 0 :: av) hok hS ⟨by show a ≤ Hr.size; have h9 : a + 0 < Hr.size := hT; omega, Nat.le_refl _⟩ (wld_g hlo.2) hPr
  rw [rv_args0 (g' := (a, Hr.size)) hav rfl]
  refine lrun_done (X.lSX (gl_at hX hlo1) hm ho hv hmL hw hc hd hna hpre hsum hk hn dg hl) hS (by rw [hg]; exact aD_sub hlo1) (fun H1 locs1 k1 k2 k3 k4 => ?_)
  have h := kk H1 locs1 ls (lw_upd hu hz1 hz2 hN k1 k2 k3) k4 hl
  have e9 : rv (a, Hr.size) w = rv g w := by have := hwv (a, Hr.size) g; simpa using this
  show W _ _ _ _ _ _ _ _ _ _ _ _ _ _ _ (F0 m (pc + 3) ls (rv (a, Hr.size) w :: S.map (rv g)))
  rw [e9]
  exact h
end
