/-! ===== THE LAYER, 2: fields, arrays, making ===== -/
theorem u_good {C : String} {T : u_T} {N : Nat} {w : Cond} (h : w ∈ u_ws C T N) : goodWord w = true := by
  obtain ⟨k, -, rfl⟩ := List.mem_map.mp h
  unfold u_lay
  split <;> rfl
def FOk (own : String) (idx ci k : Nat) (ty : FieldType) (fin : Bool) : Prop :=
  ∃ (C : String) (T : u_T) (N : Nat) (ty0 : Nat → FieldType), vwCl[ci]? = some (C, T, N) ∧ (∀ w ∈ u_ws C T N, w ∈ lw_tbl) ∧ (∀ k, k < N → parseFieldDescriptor (T k).2.2.1 = some (ty0 k)) ∧ (∀ a, a < N → ∀ b, b < N → a ≠ b → (T a).2.1 ≠ (T b).2.1) ∧
    k < N ∧ wok (.fieldLink own idx (T k).1 (T k).2.1 (T k).2.2.1) ∧ (T k).2.2.2 = fin ∧ ty0 k = ty ∧ (fin = true → (T k).1 = own)
/-- a field link that is only read -/
def FOr (own : String) (idx ci k : Nat) : Prop :=
  ∃ (C : String) (T : u_T) (N : Nat) (ty0 : Nat → FieldType), vwCl[ci]? = some (C, T, N) ∧ (∀ w ∈ u_ws C T N, w ∈ lw_tbl) ∧ (∀ k, k < N → parseFieldDescriptor (T k).2.2.1 = some (ty0 k)) ∧ (∀ a, a < N → ∀ b, b < N → a ≠ b → (T a).2.1 ≠ (T b).2.1) ∧
    k < N ∧ wok (.fieldLink own idx (T k).1 (T k).2.1 (T k).2.2.1)
theorem FOk.r {own : String} {idx ci k : Nat} {ty : FieldType} {fin : Bool} (h : FOk own idx ci k ty fin) : FOr own idx ci k := by
  obtain ⟨C, T, N, ty0, h1, h2, h3, h4, h5, h6, -⟩ := h
  exact ⟨C, T, N, ty0, h1, h2, h3, h4, h5, h6⟩
def COk (ci : Nat) (C : String) (N : Nat) (fs : List Value) : Prop :=
  ∃ (T : u_T) (ty0 : Nat → FieldType), vwCl[ci]? = some (C, T, N) ∧ (∀ w ∈ u_ws C T N, w ∈ lw_tbl) ∧ (∀ k, k < N → parseFieldDescriptor (T k).2.2.1 = some (ty0 k)) ∧ ∀ j, j < N → defaultValue (ty0 j) = vp_V fs j
theorem rv_default (g : Nat × Nat) (ty : FieldType) : rv g (defaultValue ty) = defaultValue ty := by cases ty <;> rfl
theorem vp_V_map (g : Nat × Nat) (fs : List Value) (j : Nat) : vp_V (fs.map (rv g)) j = rv g (vp_V fs j) := by
  unfold vp_V
  rw [List.getD_eq_getElem?_getD, List.getD_eq_getElem?_getD, List.getElem?_map]
  cases fs[j]? <;> rfl
theorem rv_rf (g : Nat × Nat) (o : Option Nat) : rv g (va_rf o) = va_rf (o.map (ra g)) := by cases o <;> rfl
theorem wld_set {g : Nat × Nat} {ca : Nat → ClassId} {D : va_G} {H H' : aH} {Hr H1 : Heap} {i : Nat} {c : mC} {a : Nat} {e : va_E} (h : wld g ca D H Hr) (hi : i < H.2.1) (hs : sH H i c = H') (ha : a = g.1 + i) (he : e = re g ca c)
    (hP : va_P D vwCl ((rW g ca H.2.1 H.2.2).set i (a, e)) H1) (hz : H1.size = Hr.size) : wld g ca D H' H1 := by
  subst hs; subst ha; subst he
  refine ⟨h.1, ?_, fun hf => by rw [hz]; exact h.2.2 hf⟩
  have h2 := hP
  rw [rW_set hi] at h2
  exact h2
theorem wld_setF {g : Nat × Nat} {ca : Nat → ClassId} {D : va_G} {H H' : aH} {Hr H1 : Heap} {i : Nat} {c : mC} {a : Nat} {e : va_E} (h : wld g ca D H Hr) (hfr : H.1 = false) (hi : i < H.2.1) (hs : sH H i c = H') (ha : a = g.1 + i) (he : e = re g ca c)
    (hP : va_P D vwCl ((rW g ca H.2.1 H.2.2).set i (a, e)) H1) : wld g ca D H' H1 := by
  subst hs; subst ha; subst he
  refine ⟨h.1, ?_, fun hf => by have h9 : H.1 = true := hf; rw [hfr] at h9; cases h9⟩
  have h2 := hP
  rw [rW_set hi] at h2
  exact h2
section
variable {own : String} {cc : ByteArray} {nL d kc ks : Nat} {Wk : tW} {k n pc q : Nat} {L : List (Option Value)} {S : List Value} {H H' : aH}
theorem Core.getf (C : Core own cc nL d kc ks Wk) {idx ci j i : Nat} {fs : List Value} {v : Value} (hF : FOr own idx ci j) (hH : H.2.2 i = .inr (ci, fs)) (hi : i < H.2.1) (hv : fs[j]? = some v)
    (dg : decode cc pc = .ok (.getfield idx, 3)) (hq : pc + 3 = q) (kk : Wk k n q L (v :: S) H) : Wk k n pc L (.ref i :: S) H := by
  obtain ⟨p, l, e, R, s, m, args, below, meth, c, Q, g, ca, D, sL, X, rfl⟩ := C
  subst hq
  intro Hr locs ls hN hS hl
  obtain ⟨C0, T, N, ty0, h1, h2, h3, h4, h5, h6⟩ := hF
  have e1 : rv g (.ref i) = .ref (g.1 + i) := by show Value.ref (ra g i) = _; rw [ra_lt (Nat.lt_of_lt_of_le hi hN.1)]
  show W _ _ _ _ _ _ _ _ _ _ _ _ _ _ _ (F0 m pc ls (rv g (.ref i) :: S.map (rv g)))
  rw [e1]
  exact va_get X.exec X.code (own := own) (Ts := u_ws C0 T N) (fun w hw => X.word ⟨h2 w hw, u_good hw⟩ args) (fun w hw => hw) X.ow X.K hN.2.1 i (fs := fs.map (rv g)) (by rw [rW_get hi, hH]; rfl) h1 j h5 (X.word h6 args) (fun _ h => h) (v := rv g v) (by rw [List.getElem?_map, hv]; rfl) dg (kk Hr locs ls hN hS hl)
end
section
variable {p : Program} {l : Launch} {e : Env} {R : Room} {s : State} {m : MethodId} {args : Array Value} {below : List Frame} {meth : Method} {c : Code} {H : Heap} {locs : List Loc} {cells slots : Nat} {Q : State → Prop}
variable {cc : ByteArray} {pc : Nat} {ls : Array Slot} {rest : List Value} {D : va_G} {cl : List vw_C} {A : Nat → Prop} {a : Nat} {tys : List (ClassId × FieldType)} {ws : va_W} {H0 : Heap}
/-- a field written (final ones in their constructor): the heap's size stays -/
theorem zz_put (hexec : p.tables.exec = Jvm.exec) (hb : c.code = cc) {own C : String} {T : u_T} {N ci index : Nat} (hts : ∀ w ∈ u_ws C T N, w.before args s = true) (ty0 : Nat → FieldType) (hty : ∀ k, k < N → parseFieldDescriptor (T k).2.2.1 = some (ty0 k)) (hnm : ∀ a, a < N → ∀ b, b < N → a ≠ b → (T a).2.1 ≠ (T b).2.1)
    (hown : s.vm.findClass own = some m.cls) (hK : va_K D cl tys s) (hP : va_P D cl ws H) (hD : va_D A ws) (hS0 : va_S A H0 H locs) (q0 : Nat) {fs : List Value} (he : ws[q0]? = some (a, .inr (ci, fs))) (hc : cl[ci]? = some (C, T, N)) (k : Nat) (hk : k < N) (hlink : (Cond.fieldLink own index (T k).1 (T k).2.1 (T k).2.2.1).before args s = true)
    (hfin : (T k).2.2.2 = false ∨ ((T k).2.2.2 = true ∧ meth.name = "<init>" ∧ (T k).1 = own)) {v : Value} (hn : narrow (ty0 k) v = v) (hfit : fits (ty0 k) v = true) (hl : k < fs.length) (hdg : decode cc pc = .ok (.putfield index, 3))
    (kk : ∀ (H1 : Heap) (locs1 : List Loc), H1.size = H.size → va_P D cl (ws.set q0 (a, .inr (ci, fs.set k v))) H1 → va_S A H0 H1 locs1 → W p l e R s m args below meth c H1 locs1 cells slots Q (F0 m (pc + 3) ls rest)) : W p l e R s m args below meth c H locs cells slots Q (F0 m pc ls (v :: .ref a :: rest)) := by
  have hap := va_apart (own := own) hts (fun w h => h) ty0 hty hnm hK hc
  obtain ⟨r, h1, cell, q1, q2, q3, q4⟩ := hP q0 _ he
  obtain rfl : r = (C, T, N) := Option.some.inj (h1.symm.trans hc)
  obtain ⟨hS, hfc, kC, hkC, hkind⟩ := hK.1 ci _ hc
  obtain ⟨cf, kf, fi, f, hi, hsl⟩ := hS k hk
  have hlay := hts _ (u_in_lay hk)
  have hst := (u_facts hfc hkC (u_lays hts (fun w h => h) hk) hi).1
  have last : ∀ H' : Heap, H'[a]? = some (cell.setSlot f.slot v) → H'.size = H.size → (∀ q, q ≠ a → H'[q]? = H[q]?) → W p l e R s m args below meth c H' (locs ++ [⟨a, f.slot⟩]) cells slots Q (F0 m (pc + 3) ls rest) := by
    intro H' e1 e2 e3
    rw [hsl] at e1 ⊢
    exact kk H' _ e2 (hP.set hD he ⟨_, hc, t_OB.to (V := updV (vp_V fs) k v) ⟨_, e1, q2, q3, t_set q4 hap hk v⟩ (fun j _ => vp_updV_set hl v j)⟩ e3) (hS0.put e2 e3 (hD.2 q0 _ he))
  rcases hfin with hfin | ⟨hfin, hin, hdecl⟩
  · unfold u_lay at hlay
    rw [if_neg (by rw [hfin]; decide)] at hlay
    have h6 := u_store hfc hkC hkind hlay hi (hty k hk) hn hfit
    exact W.putK hexec hb (f := f) ⟨hown, hlink, ⟨_, _, _, hi⟩, hst⟩ (by rw [q2]; exact h6) q1 q3 (by rw [hsl]; exact k2_hasslot (q4 k hk)) rfl rfl hdg last
  · unfold u_lay at hlay
    rw [if_pos hfin] at hlay
    have hcf : m.cls = cf := by
      obtain ⟨_, _, c', _, _, _, -, -, hf', -, -, -, hown2, -⟩ := Cond.laysFinal_spec hlay
      have e1 : c' = cf := by have := hi.symm.trans hf'; simp at this; exact this.1.symm
      rw [hdecl] at hown2
      rw [← e1]; exact Option.some.inj (hown.symm.trans hown2)
    have h6 := u_fits hfc hkC hkind (Or.inr hlay) hi (hty k hk) hn hfit
    exact W.putFinK hexec hb hown hlink hi hst hcf hin (by rw [q2]; exact h6) q1 q3 (by rw [hsl]; exact k2_hasslot (q4 k hk)) rfl rfl hdg last
theorem zz_iast (hexec : p.tables.exec = Jvm.exec) (hb : c.code = cc) (hK : va_K D cl tys s) (hP : va_P D cl ws H) (hD : va_D A ws) (hS : va_S A H0 H locs) (q0 t0 : Nat) {cA : ClassId} {n : Nat} {f : Nat → Int32} (ha : ws[q0]? = some (a, .inl (cA, n, .inl f))) (ht : tys[t0]? = some (cA, .int)) {i : Int32} {x : Int32} (hin : vp_in i n) (hdg : decode cc pc = .ok (.iastore, 1))
    (kk : ∀ (H1 : Heap) (locs1 : List Loc), H1.size = H.size → va_P D cl (ws.set q0 (a, .inl (cA, n, .inl (upd f i.toNatClampNeg x)))) H1 → va_S A H0 H1 locs1 → W p l e R s m args below meth c H1 locs1 cells slots Q (F0 m (pc + 1) ls rest)) : W p l e R s m args below meth c H locs cells slots Q (F0 m pc ls (.int x :: .int i :: .ref a :: rest)) := by
  refine W.iast hexec hb (hP q0 _ ha) ((hK.2 t0 _ ht).1 n (fun j => .int (f j))) (fun q => by cases q) (by show ¬ (i < 0 ∨ (arrV _ _ _).slots.size ≤ _); rw [arrV_size]; exact hin) rfl rfl hdg fun H1 e z oq => ?_
  refine kk H1 _ z (hP.set hD ha ?_ oq) (hS.put z oq (hD.2 q0 _ ha))
  show H1[a]? = some (vp_cell _ _)
  rw [e, vp_cell_i, vp_cell_i, arrV_store]
  congr 2
  funext q
  by_cases hq : q = i.toNatClampNeg
  · subst hq; simp [updV, upd]
  · simp [updV, upd, hq]
theorem zz_astq (hexec : p.tables.exec = Jvm.exec) (hb : c.code = cc) (hK : va_K D cl tys s) (hP : va_P D cl ws H) (hD : va_D A ws) (hS : va_S A H0 H locs) (q0 t0 qk ci : Nat) {cA : ClassId} {r : vw_C} {n v : Nat} {vs : List Value} {f : Nat → Option Nat} (ha : ws[q0]? = some (a, .inl (cA, n, .inr (.inr (.inr (.inr f)))))) (ht : tys[t0]? = some (cA, .object r.1)) (hv : ws[qk]? = some (v, .inr (ci, vs))) (hc : cl[ci]? = some r) {i : Int32} (hin : vp_in i n) (hdg : decode cc pc = .ok (.aastore, 1))
    (kk : ∀ (H1 : Heap) (locs1 : List Loc), H1.size = H.size → va_P D cl (ws.set q0 (a, .inl (cA, n, .inr (.inr (.inr (.inr (va_up f i.toNatClampNeg (some v)))))))) H1 → va_S A H0 H1 locs1 → W p l e R s m args below meth c H1 locs1 cells slots Q (F0 m (pc + 1) ls rest)) : W p l e R s m args below meth c H locs cells slots Q (F0 m pc ls (.ref v :: .int i :: .ref a :: rest)) := by
  have hlt : i.toNatClampNeg < n := Nat.not_le.mp fun q => hin (Or.inr q)
  have h0 : ¬ i < 0 := fun q => hin (Or.inl q)
  obtain ⟨r', hr', cellV, g1, g2, g3, -⟩ := hP qk _ hv
  have hcls := (hK.1 ci r hc).2
  obtain ⟨kA, comp, k1, k2, k3, -⟩ := (hK.2 t0 _ ht).2
  have hcomp : comp = D.1 ci := Option.some.inj (k3.symm.trans hcls.1)
  subst hcomp
  obtain ⟨kC, hkC, -⟩ := hcls.2
  refine W.aast hexec hb (hP q0 _ ha) (fun q h => by cases h) (fun h => by cases h) k1 k2 rfl hkC ⟨h0, by show _ < (arrV _ _ _).slots.size; rw [arrV_size]; exact hlt⟩ g1 (fun q h => by rw [g3] at h; cases h) (by rw [g2]; exact hkC) (by rw [g2]; exact va_assign hcls) rfl rfl hdg fun H1 e z oq => ?_
  refine kk H1 _ z (hP.set hD ha ?_ oq) (hS.put z oq (hD.2 q0 _ ha))
  show H1[a]? = some (vp_cell _ _)
  rw [e, vp_cell_q, vp_cell_q, arrV_store]
  congr 2
  funext q
  by_cases hq : q = i.toNatClampNeg
  · subst hq; simp [updV, va_up, va_rf]
  · simp [updV, va_up, hq]
end
section
variable {own : String} {cc : ByteArray} {nL d kc ks : Nat} {Wk : tW} {k n pc q : Nat} {L : List (Option Value)} {S : List Value} {H H' : aH}
theorem Core.putf (C : Core own cc nL d kc ks Wk) {idx ci j i : Nat} {ty : FieldType} {fs : List Value} {v : Value} (hF : FOk own idx ci j ty false) (hH : H.2.2 i = .inr (ci, fs)) (hi : i < H.2.1) (hl0 : j < fs.length)
    (hn : ∀ g, narrow ty (rv g v) = rv g v) (hf : ∀ g, fits ty (rv g v) = true) (hs : sH H i (.inr (ci, fs.set j v)) = H')
    (dg : decode cc pc = .ok (.putfield idx, 3)) (hq : pc + 3 = q) (kk : Wk k n q L S H') : Wk k n pc L (v :: .ref i :: S) H := by
  obtain ⟨p, l, e, R, s, m, args, below, meth, c, Q, g, ca, D, sL, X, rfl⟩ := C
  subst hq
  intro Hr locs ls hN hS hl
  obtain ⟨C0, T, N, ty0, h1, h2, h3, h4, h5, h6, h7, h8, h9⟩ := hF
  have e1 : rv g (.ref i) = .ref (g.1 + i) := by show Value.ref (ra g i) = _; rw [ra_lt (Nat.lt_of_lt_of_le hi hN.1)]
  show W _ _ _ _ _ _ _ _ _ _ _ _ _ _ _ (F0 m pc ls (rv g v :: rv g (.ref i) :: S.map (rv g)))
  rw [e1]
  have hws : (rW g ca H.2.1 H.2.2)[i]? = some (g.1 + i, .inr (ci, fs.map (rv g))) := by rw [rW_get hi, hH]; rfl
  exact zz_put X.exec X.code (own := own) (fun w hw => X.word ⟨h2 w hw, u_good hw⟩ args) ty0 h3 h4 X.ow X.K hN.2.1 (rW_D hN.1) hS i (fs := fs.map (rv g)) hws h1 j h5 (X.word h6 args) (Or.inl h7) (by rw [h8]; exact hn g) (by rw [h8]; exact hf g) (by rw [List.length_map]; exact hl0) dg
    (fun H1 locs1 hz hP1 hS1 => kk H1 locs1 ls (wld_set hN hi hs rfl (by rw [← List.map_set]; rfl) hP1 hz) hS1 hl)
theorem Core.iald (C : Core own cc nL d kc ks Wk) {i len : Nat} {f : Nat → Int32} {x : Int32} (hH : H.2.2 i = .inl (0, len, .inl f)) (hi : i < H.2.1) (hin : vp_in x len) (dg : decode cc pc = .ok (.iaload, 1)) (hq : pc + 1 = q) (kk : Wk k n q L (.int (f x.toNatClampNeg) :: S) H) : Wk k n pc L (.int x :: .ref i :: S) H := by
  obtain ⟨p, l, e, R, s, m, args, below, meth, c, Q, g, ca, D, sL, X, rfl⟩ := C
  subst hq
  intro Hr locs ls hN hS hl
  have e1 : rv g (.ref i) = .ref (g.1 + i) := by show Value.ref (ra g i) = _; rw [ra_lt (Nat.lt_of_lt_of_le hi hN.1)]
  show W _ _ _ _ _ _ _ _ _ _ _ _ _ _ _ (F0 m pc ls (.int x :: rv g (.ref i) :: S.map (rv g)))
  rw [e1]
  exact va_iald X.exec X.code X.K hN.2.1 i 0 (f := f) (by rw [rW_get hi, hH]; rfl) rfl hin dg (kk Hr locs ls hN hS hl)
theorem Core.cald (C : Core own cc nL d kc ks Wk) {i len : Nat} {f : Nat → Int32} {x : Int32} (hH : H.2.2 i = .inl (1, len, .inl f)) (hi : i < H.2.1) (hin : vp_in x len) (dg : decode cc pc = .ok (.caload, 1)) (hq : pc + 1 = q) (kk : Wk k n q L (.int (f x.toNatClampNeg) :: S) H) : Wk k n pc L (.int x :: .ref i :: S) H := by
  obtain ⟨p, l, e, R, s, m, args, below, meth, c, Q, g, ca, D, sL, X, rfl⟩ := C
  subst hq
  intro Hr locs ls hN hS hl
  have e1 : rv g (.ref i) = .ref (g.1 + i) := by show Value.ref (ra g i) = _; rw [ra_lt (Nat.lt_of_lt_of_le hi hN.1)]
  show W _ _ _ _ _ _ _ _ _ _ _ _ _ _ _ (F0 m pc ls (.int x :: rv g (.ref i) :: S.map (rv g)))
  rw [e1]
  exact va_cald X.exec X.code X.K hN.2.1 i 1 (f := f) (by rw [rW_get hi, hH]; rfl) rfl hin dg (kk Hr locs ls hN hS hl)
theorem Core.aldq (C : Core own cc nL d kc ks Wk) {i len : Nat} {f : Nat → Option Nat} {x : Int32} (hH : H.2.2 i = .inl (4, len, .inr (.inr (.inr (.inr f))))) (hi : i < H.2.1) (hin : vp_in x len) (dg : decode cc pc = .ok (.aaload, 1)) (hq : pc + 1 = q) (kk : Wk k n q L (va_rf (f x.toNatClampNeg) :: S) H) : Wk k n pc L (.int x :: .ref i :: S) H := by
  obtain ⟨p, l, e, R, s, m, args, below, meth, c, Q, g, ca, D, sL, X, rfl⟩ := C
  subst hq
  intro Hr locs ls hN hS hl
  have e1 : rv g (.ref i) = .ref (g.1 + i) := by show Value.ref (ra g i) = _; rw [ra_lt (Nat.lt_of_lt_of_le hi hN.1)]
  show W _ _ _ _ _ _ _ _ _ _ _ _ _ _ _ (F0 m pc ls (.int x :: rv g (.ref i) :: S.map (rv g)))
  rw [e1]
  have h := kk Hr locs ls hN hS hl
  rw [List.map_cons, rv_rf] at h
  exact va_aldq X.exec X.code X.K hN.2.1 i 4 (f := fun j => (f j).map (ra g)) (by rw [rW_get hi, hH]; rfl) rfl hin dg h
theorem Core.iast (C : Core own cc nL d kc ks Wk) {i len : Nat} {f : Nat → Int32} {x : Int32} {y : Int32} (hH : H.2.2 i = .inl (0, len, .inl f)) (hi : i < H.2.1) (hin : vp_in x len) (hs : sH H i (.inl (0, len, .inl (upd f x.toNatClampNeg y))) = H') (dg : decode cc pc = .ok (.iastore, 1)) (hq : pc + 1 = q) (kk : Wk k n q L S H') : Wk k n pc L (.int y :: .int x :: .ref i :: S) H := by
  obtain ⟨p, l, e, R, s, m, args, below, meth, c, Q, g, ca, D, sL, X, rfl⟩ := C
  subst hq
  intro Hr locs ls hN hS hl
  have e1 : rv g (.ref i) = .ref (g.1 + i) := by show Value.ref (ra g i) = _; rw [ra_lt (Nat.lt_of_lt_of_le hi hN.1)]
  show W _ _ _ _ _ _ _ _ _ _ _ _ _ _ _ (F0 m pc ls (.int y :: .int x :: rv g (.ref i) :: S.map (rv g)))
  rw [e1]
  exact zz_iast X.exec X.code X.K hN.2.1 (rW_D hN.1) hS i 0 (f := f) (by rw [rW_get hi, hH]; rfl) rfl hin dg (fun H1 locs1 hz hP1 hS1 => kk H1 locs1 ls (wld_set hN hi hs rfl rfl hP1 hz) hS1 hl)
theorem Core.cast (C : Core own cc nL d kc ks Wk) {i len : Nat} {f : Nat → Int32} {x : Int32} {y : Int32} (hH : H.2.2 i = .inl (1, len, .inl f)) (hi : i < H.2.1) (hfr : H.1 = false) (hin : vp_in x len) (hs : sH H i (.inl (1, len, .inl (upd f x.toNatClampNeg (vp_nar .char y)))) = H') (dg : decode cc pc = .ok (.castore, 1)) (hq : pc + 1 = q) (kk : Wk k n q L S H') : Wk k n pc L (.int y :: .int x :: .ref i :: S) H := by
  obtain ⟨p, l, e, R, s, m, args, below, meth, c, Q, g, ca, D, sL, X, rfl⟩ := C
  subst hq
  intro Hr locs ls hN hS hl
  have e1 : rv g (.ref i) = .ref (g.1 + i) := by show Value.ref (ra g i) = _; rw [ra_lt (Nat.lt_of_lt_of_le hi hN.1)]
  show W _ _ _ _ _ _ _ _ _ _ _ _ _ _ _ (F0 m pc ls (.int y :: .int x :: rv g (.ref i) :: S.map (rv g)))
  rw [e1]
  exact va_cast X.exec X.code X.K hN.2.1 (rW_D hN.1) hS i 1 (f := f) (by rw [rW_get hi, hH]; rfl) rfl hin dg (fun H1 locs1 hP1 hD1 hS1 => kk H1 locs1 ls (wld_setF hN hfr hi hs rfl rfl hP1) hS1 hl)
theorem Core.astq (C : Core own cc nL d kc ks Wk) {i len v ci : Nat} {C0 : String} {T : u_T} {N : Nat} {vs : List Value} {f : Nat → Option Nat} {x : Int32} (hH : H.2.2 i = .inl (4, len, .inr (.inr (.inr (.inr f))))) (hi : i < H.2.1) (hv : H.2.2 v = .inr (ci, vs)) (hvi : v < H.2.1) (hc : vwCl[ci]? = some (RX0, T, N)) (hin : vp_in x len)
    (hs : sH H i (.inl (4, len, .inr (.inr (.inr (.inr (va_up f x.toNatClampNeg (some v))))))) = H') (dg : decode cc pc = .ok (.aastore, 1)) (hq : pc + 1 = q) (kk : Wk k n q L S H') : Wk k n pc L (.ref v :: .int x :: .ref i :: S) H := by
  obtain ⟨p, l, e, R, s, m, args, below, meth, c, Q, g, ca, D, sL, X, rfl⟩ := C
  subst hq
  intro Hr locs ls hN hS hl
  have e1 : rv g (.ref i) = .ref (g.1 + i) := by show Value.ref (ra g i) = _; rw [ra_lt (Nat.lt_of_lt_of_le hi hN.1)]
  have e2 : rv g (.ref v) = .ref (g.1 + v) := by show Value.ref (ra g v) = _; rw [ra_lt (Nat.lt_of_lt_of_le hvi hN.1)]
  show W _ _ _ _ _ _ _ _ _ _ _ _ _ _ _ (F0 m pc ls (rv g (.ref v) :: .int x :: rv g (.ref i) :: S.map (rv g)))
  rw [e1]
  rw [e2]
  refine zz_astq X.exec X.code X.K hN.2.1 (rW_D hN.1) hS i 4 v ci (f := fun j => (f j).map (ra g)) (by rw [rW_get hi, hH]; rfl) rfl (by rw [rW_get hvi, hv]; rfl) hc hin dg (fun H1 locs1 hz hP1 hS1 => kk H1 locs1 ls (wld_set hN hi hs rfl ?_ hP1 hz) hS1 hl)
  show (Sum.inl (ca 4, len, .inr (.inr (.inr (.inr (va_up (fun j => (f j).map (ra g)) x.toNatClampNeg (some (g.1 + v))))))) : va_E) = Sum.inl (ca 4, len, .inr (.inr (.inr (.inr (fun j => ((va_up f x.toNatClampNeg (some v)) j).map (ra g))))))
  congr 7
  funext j
  by_cases hj : j = x.toNatClampNeg
  · simp [va_up, hj, ra_lt (Nat.lt_of_lt_of_le hvi hN.1)]
  · simp [va_up, hj]
theorem Core.alen (C : Core own cc nL d kc ks Wk) {i t len : Nat} {x : vp_A} {v : Int32} (hH : H.2.2 i = .inl (t, x)) (hi : i < H.2.1) (ht : t < 4) (hv : Int32.ofNat x.1 = v) (dg : decode cc pc = .ok (.arraylength, 1)) (hq : pc + 1 = q) (kk : Wk k n q L (.int v :: S) H) : Wk k n pc L (.ref i :: S) H := by
  obtain ⟨p, l, e, R, s, m, args, below, meth, c, Q, g, ca, D, sL, X, rfl⟩ := C
  subst hq
  intro Hr locs ls hN hS hl
  have e1 : rv g (.ref i) = .ref (g.1 + i) := by show Value.ref (ra g i) = _; rw [ra_lt (Nat.lt_of_lt_of_le hi hN.1)]
  show W _ _ _ _ _ _ _ _ _ _ _ _ _ _ _ (F0 m pc ls (rv g (.ref i) :: S.map (rv g)))
  rw [e1]
  have e3 : (rx g x).1 = x.1 := by obtain ⟨n9, f | f | f | f | f⟩ := x <;> rfl
  have e4 : (tys ca)[t]? = some (ca t, tyOf t) := by
    rcases (show t = 0 ∨ t = 1 ∨ t = 2 ∨ t = 3 by omega) with rfl | rfl | rfl | rfl <;> rfl
  exact va_alen X.exec X.code X.K hN.2.1 i t (x := rx g x) (by rw [rW_get hi, hH]; rfl) e4 (by rw [e3]; exact hv) dg (kk Hr locs ls hN hS hl)
/-- System.arraycopy of ints -/
theorem Core.copyi (C : Core own cc nL d kc ks Wk) {idx i j n0 n1 : Nat} {f f2 : Nat → Int32} {sp dp nn : Int32} (hw : wok (.methodLink own idx arraycopyName)) (hi : i < H.2.1) (hj : j < H.2.1) (hfr : H.1 = false) (ha : H.2.2 i = .inl (0, n0, .inl f)) (hb : H.2.2 j = .inl (0, n1, .inl f2)) (h1 : ¬ sp < 0) (h2 : ¬ dp < 0) (h3 : ¬ nn < 0)
    (h4 : sp.toNatClampNeg + nn.toNatClampNeg ≤ n0) (h5 : dp.toNatClampNeg + nn.toNatClampNeg ≤ n1) (hd : 2 ≤ d) (hr : (S.map fun v => v.category).sum ≤ 8) (hs : sH H j (.inl (0, n1, .inl (va_cpy f f2 sp.toNatClampNeg dp.toNatClampNeg nn.toNatClampNeg))) = H')
    (dg : decode cc pc = .ok (.invokestatic idx, 3)) (hq : pc + 3 = q) (kk : Wk k n q L S H') : Wk k n pc L (.int nn :: .int dp :: .ref j :: .int sp :: .ref i :: S) H := by
  obtain ⟨p, l, e, R, s, m, args, below, meth, c, Q, g, ca, D, sL, X, rfl⟩ := C
  subst hq
  intro Hr locs ls hN hS hl
  have e1 : rv g (.ref i) = .ref (g.1 + i) := by show Value.ref (ra g i) = _; rw [ra_lt (Nat.lt_of_lt_of_le hi hN.1)]
  have e2 : rv g (.ref j) = .ref (g.1 + j) := by show Value.ref (ra g j) = _; rw [ra_lt (Nat.lt_of_lt_of_le hj hN.1)]
  have e : ((S.map (rv g)).map fun v => v.category).sum = (S.map fun v => v.category).sum := by
    rw [List.map_map]; congr 1; exact List.map_congr_left (fun v _ => rv_cat g v)
  have hx1 := X.frames
  have hx2 := X.locals
  have hx3 : nativeFrameWords "java/lang/System" "arraycopy" 5 ≤ 100 := by decide +kernel
  show W _ _ _ _ _ _ _ _ _ _ _ _ _ _ _ (F0 m pc ls (.int nn :: .int dp :: rv g (.ref j) :: .int sp :: rv g (.ref i) :: S.map (rv g)))
  rw [e1]
  rw [e2]
  exact va_copyi X.exec X.code (X.max.trans hl.1.symm) X.ow (X.word hw args) (X.word nat_arraycopy args) (X.word sw_arraycopy args) (X.word iw_System args) X.K hN.2.1 (rW_D hN.1) hS i j 0 0 (by rw [rW_get hi, ha]; rfl) (by rw [rW_get hj, hb]; rfl) rfl rfl rfl h1 h2 h3 h4 h5 (fun _ _ => rfl) (by omega) (by rw [e]; omega) dg
    (fun H1 locs1 hP1 hD1 hS1 => kk H1 locs1 ls (wld_setF hN hfr hj hs rfl rfl hP1) hS1 hl)
theorem wld_push {g : Nat × Nat} {ca : Nat → ClassId} {D : va_G} {H : aH} {Hr H1 : Heap} {c : mC} (h : wld g ca D H Hr) (hf : H.1 = true) (h9 : H.2.1 < 131) (e1 : va_at D vwCl (Hr.size, re g ca c) H1) (z1 : H1.size = Hr.size + 1) (o1 : ∀ q, q < Hr.size → H1[q]? = Hr[q]?) : wld g ca D (pH H c) H1 := by
  have hz := h.2.2 hf
  refine ⟨h9, ?_, fun _ => by rw [z1, hz]; rfl⟩
  show va_P D vwCl (rW g ca (H.2.1 + 1) (fu H.2.2 H.2.1 c)) H1
  rw [← rW_push]
  refine (h.2.1.kept (fun k x hx => o1 x.1 ((h.2.1 k x hx).lt))).app (fun k x hx => ?_)
  have hz2 : k < 1 := (List.getElem?_eq_some_iff.mp hx).1
  rw [show k = 0 by omega] at hx
  cases hx
  rw [← hz]
  exact e1
theorem Core.new (C : Core own cc nL d kc ks Wk) {idx ci N : Nat} {C0 : String} {fs : List Value} (hC : COk ci C0 N fs) (hk : wok (.classLink own idx C0)) (ha : wok (.instantiable C0 N)) (hw : wok (.initialized C0)) (hfr : H.1 = true) (h9 : H.2.1 < 131) (hkc : k + 1 ≤ kc) (hks : n + N ≤ ks)
    (dg : decode cc pc = .ok (.new idx, 3)) (hq : pc + 3 = q) (kk : Wk (k + 1) (n + N) q L (.ref H.2.1 :: S) (pH H (.inr (ci, fs)))) : Wk k n pc L S H := by
  obtain ⟨p, l, e, R, s, m, args, below, meth, c, Q, g, ca, D, sL, X, rfl⟩ := C
  subst hq
  intro Hr locs ls hN hS hl
  obtain ⟨T, ty0, h1, h2, h3, h4⟩ := hC
  have hKn := X.K.1 ci _ h1
  have hz := hN.2.2 hfr
  refine W.newcK X.exec X.code X.ow (X.word hk args) (X.word ha args) (X.word hw args) rfl dg (Nat.le_trans hkc X.cells) (Nat.le_trans hks X.slots) hKn.2.1 rfl fun H1 kC hkC e1 z1 o1 => ?_
  have h := kk H1 locs ls (wld_push hN hfr h9 ⟨_, h1, (u_born ty0 (fun w hw => X.word ⟨h2 w hw, u_good hw⟩ args) (fun w hw => hw) hKn hkC e1 h3).to (fun j hj => by rw [vp_V_map, ← h4 j hj, rv_default])⟩ z1 o1) ⟨Nat.le_trans hS.1 (by omega), fun x h1 h2 => (o1 x (Nat.lt_of_lt_of_le h1 hS.1)).trans (hS.2.1 x h1 h2), hS.2.2⟩ hl
  have e1 : (List.map (rv g) (.ref H.2.1 :: S)) = .ref Hr.size :: S.map (rv g) := by
    show Value.ref (ra g H.2.1) :: S.map (rv g) = _
    rw [ra_lt h9, hz]
  rw [e1] at h
  exact h
theorem Core.newa (C : Core own cc nL d kc ks Wk) {t N : Nat} {atype : ArrayType} {x : Int32} {x0 : vp_A} (hA : wok (.arrayClass (newarray.typeOf atype))) (ht : newarray.typeOf atype = tyOf t ∧ t < 4) (hx : ∀ cA : ClassId, vp_cell cA x0 = arrV cA N (fun _ => defaultValue (tyOf t))) (hx2 : ∀ g, rx g x0 = x0) (h0 : ¬ x < 0) (hN0 : x.toNatClampNeg = N) (hb0 : N ≤ 10000)
    (hfr : H.1 = true) (h9 : H.2.1 < 131) (hkc : k + 1 ≤ kc) (hks : n + N ≤ ks) (dg : decode cc pc = .ok (.newarray atype, 2)) (hq : pc + 2 = q) (kk : Wk (k + 1) (n + N) q L (.ref H.2.1 :: S) (pH H (.inl (t, x0)))) : Wk k n pc L (.int x :: S) H := by
  obtain ⟨p, l, e, R, s, m, args, below, meth, c, Q, g, ca, D, sL, X, rfl⟩ := C
  subst hq
  intro Hr locs ls hN hS hl
  have hz := hN.2.2 hfr
  obtain ⟨ht1, ht2⟩ := ht
  refine va_newaK X.exec X.code (X.word hA args) rfl dg rfl h0 hN0 ?_ (Nat.le_trans hkc X.cells) (Nat.le_trans hks X.slots) rfl fun H1 cA e1 z1 o1 hAr hNm => ?_
  · have : componentBytes (newarray.typeOf atype) ≤ 8 := by cases atype <;> decide
    calc N * componentBytes (newarray.typeOf atype) ≤ 10000 * 8 := Nat.mul_le_mul hb0 this
      _ ≤ 536870912 := by decide
  have e4 : (tys ca)[t]? = some (ca t, tyOf t) := by
    rcases (show t = 0 ∨ t = 1 ∨ t = 2 ∨ t = 3 by omega) with rfl | rfl | rfl | rfl <;> rfl
  have hcA : cA = ca t := by
    have h2 := (X.K.2 t _ e4).2
    have h3 : va_RA s (ca t) (tyOf t) = (s.vm.findClass ("[" ++ (tyOf t).toString) = some (ca t)) := by
      rcases (show t = 0 ∨ t = 1 ∨ t = 2 ∨ t = 3 by omega) with rfl | rfl | rfl | rfl <;> rfl
    rw [h3] at h2
    rw [ht1] at hNm
    exact Option.some.inj (hNm.symm.trans h2)
  have h := kk H1 locs ls (wld_push hN hfr h9 (by
    show H1[Hr.size]? = some (vp_cell (ca t) (rx g x0))
    rw [hx2 g, hx, ← hcA, ← ht1]; exact e1) z1 o1) ⟨Nat.le_trans hS.1 (by omega), fun x h1 h2 => (o1 x (Nat.lt_of_lt_of_le h1 hS.1)).trans (hS.2.1 x h1 h2), hS.2.2⟩ hl
  have e1 : (List.map (rv g) (.ref H.2.1 :: S)) = .ref Hr.size :: S.map (rv g) := by
    show Value.ref (ra g H.2.1) :: S.map (rv g) = _
    rw [ra_lt h9, hz]
  rw [e1] at h
  exact h
theorem Core.newq (C : Core own cc nL d kc ks Wk) {idx N : Nat} {x : Int32} (hk : wok (.classLink own idx RX0)) (h0 : ¬ x < 0) (hN0 : x.toNatClampNeg = N) (hb0 : N ≤ 10000) (hfr : H.1 = true) (h9 : H.2.1 < 131) (hkc : k + 1 ≤ kc) (hks : n + N ≤ ks)
    (dg : decode cc pc = .ok (.anewarray idx, 3)) (hq : pc + 3 = q) (kk : Wk (k + 1) (n + N) q L (.ref H.2.1 :: S) (pH H (.inl (4, N, .inr (.inr (.inr (.inr (fun _ => none)))))))) : Wk k n pc L (.int x :: S) H := by
  obtain ⟨p, l, e, R, s, m, args, below, meth, c, Q, g, ca, D, sL, X, rfl⟩ := C
  subst hq
  intro Hr locs ls hN hS hl
  have hz := hN.2.2 hfr
  subst hN0
  have hover : va_AO RX0 s := by
    obtain ⟨-, ⟨a0, h0⟩, -⟩ := X.1
    exact va_AO.moved X.2.1.alike (va_AO.of (h0 _ arrOver_in))
  refine W.anew X.exec X.code X.ow (X.word hk args) (va_AO.use hover) rfl dg rfl h0 (by omega) (Nat.le_trans hkc X.cells) (Nat.le_trans hks X.slots) fun cA kA comp f1 f2 f3 f4 => ?_
  generalize hH1 : Hr.push ({ cls := cA, slots := Array.replicate x.toNatClampNeg .null, vm := .none } : Cell) = H1
  have z1 : H1.size = Hr.size + 1 := by rw [← hH1, Array.size_push]
  have e1 : H1[Hr.size]? = some (arrV cA x.toNatClampNeg (fun _ => .null)) := by rw [← hH1, Array.getElem?_push_size, ← arrV_new]
  have o1 : ∀ q : Nat, q < Hr.size → H1[q]? = Hr[q]? := fun q hq => by rw [← hH1, Array.getElem?_push, if_neg (Nat.ne_of_lt hq)]
  have hcA : cA = ca 4 := by
    obtain ⟨kA2, comp2, k1, k2, k3, k4⟩ := (X.K.2 4 (ca 4, .object RX0) rfl).2
    exact Option.some.inj (f1.symm.trans k4)
  have h := kk H1 locs ls (wld_push hN hfr h9 (by
    show H1[Hr.size]? = some (vp_cell (ca 4) _)
    rw [← hcA]
    show H1[Hr.size]? = some (vp_cell cA (x.toNatClampNeg, .inr (.inr (.inr (.inr (fun _ => none))))))
    rw [vp_cell_q]; exact e1) z1 o1) ⟨Nat.le_trans hS.1 (by omega), fun x h1 h2 => (o1 x (Nat.lt_of_lt_of_le h1 hS.1)).trans (hS.2.1 x h1 h2), hS.2.2⟩ hl
  have e1 : (List.map (rv g) (.ref H.2.1 :: S)) = .ref Hr.size :: S.map (rv g) := by
    show Value.ref (ra g H.2.1) :: S.map (rv g) = _
    rw [ra_lt h9, hz]
  rw [e1] at h
  exact h
theorem Core.objInit (C : Core own cc nL d kc ks Wk) {idx i : Nat} (hw : wok (.methodLink own idx Lib.objectInit)) (hd : 1 ≤ d) (hr : (S.map fun v => v.category).sum ≤ 8) (dg : decode cc pc = .ok (.invokespecial idx, 3)) (hq : pc + 3 = q) (kk : Wk k n q L S H) : Wk k n pc L (.ref i :: S) H := by
  obtain ⟨p, l, e, R, s, m, args, below, meth, c, Q, g, ca, D, sL, X, rfl⟩ := C
  subst hq
  intro Hr locs ls hN hS hl
  have e : ((S.map (rv g)).map fun v => v.category).sum = (S.map fun v => v.category).sum := by
    rw [List.map_map]; congr 1; exact List.map_congr_left (fun v _ => rv_cat g v)
  have h1 := X.frames
  have h2 := X.locals
  refine W.objInit X.exec X.code X.ow (X.word hw args) (X.word vw_objectInit args) (X.word ow_objectInit args) rfl (hl.1.trans X.max.symm) rfl dg (by omega) ?_ (kk Hr locs ls hN hS hl)
  have := lv_room (m := m) (pc := pc) (ls := ls) (rest := S.map (rv g)) (st := S.map (rv g)) (by rw [e]; exact hr)
  have h3 : 2 * (F0 m pc ls (List.map (rv g) (.ref i :: S))).monitorRoom = 2 * (F0 m pc ls (S.map (rv g))).monitorRoom := rfl
  rw [h3]
  omega
end
