/-! ===== p36: rules for StringBuilder's methods ===== -/
section
variable {p : Program} {l : Launch} {e : Env} {R : Room} {s : State} {m : MethodId} {args : Array Value} {below : List Frame} {meth : Method} {c : Code} {H : Heap} {locs : List Loc} {cells slots : Nat} {Q : State → Prop}
variable {cc : ByteArray} {pc : Nat} {ls : Array Slot} {rest : List Value} {D : va_G} {cl : List vw_C} {A : Nat → Prop} {a : Nat} {tys : List (ClassId × FieldType)} {ws : va_W} {H0 : Heap}
/-- a byte written: the heap's size stays -/
theorem zz_bast (hexec : p.tables.exec = Jvm.exec) (hb : c.code = cc) (hK : va_K D cl tys s) (hP : va_P D cl ws H) (hD : va_D A ws) (hS : va_S A H0 H locs) (q0 t0 : Nat) {cA : ClassId} {n : Nat} {f : Nat → Int32} (ha : ws[q0]? = some (a, .inl (cA, n, .inl f))) (ht : tys[t0]? = some (cA, .byte)) {i : Int32} {x : Int32} (hin : vp_in i n) (hdg : decode cc pc = .ok (.bastore, 1))
    (kk : ∀ (H1 : Heap) (locs1 : List Loc), H1.size = H.size → va_P D cl (ws.set q0 (a, .inl (cA, n, .inl (upd f i.toNatClampNeg (vp_nar .byte x))))) H1 → va_S A H0 H1 locs1 → W p l e R s m args below meth c H1 locs1 cells slots Q (F0 m (pc + 1) ls rest)) : W p l e R s m args below meth c H locs cells slots Q (F0 m pc ls (.int x :: .int i :: .ref a :: rest)) := by
  refine W.bast hexec hb (hP q0 _ ha) ((hK.2 t0 _ ht).1 n (fun j => .int (f j))) (fun q => by cases q) (by show ¬ (i < 0 ∨ (arrV _ _ _).slots.size ≤ _); rw [arrV_size]; exact hin) rfl rfl hdg fun H1 e z oq => ?_
  refine kk H1 _ z (hP.set hD ha ?_ oq) (hS.put z oq (hD.2 q0 _ ha))
  show H1[a]? = some (vp_cell _ _)
  rw [e, vp_cell_i, vp_cell_i, arrV_store]
  congr 2
  funext q
  by_cases hq : q = i.toNatClampNeg
  · subst hq
    simp [updV, upd, vp_nar]
    try rfl
  · simp [updV, upd, hq]
/-- bytes copied from a cell that is known: the heap's size stays -/
theorem zz_cpb (hexec : p.tables.exec = Jvm.exec) (hb : c.code = cc) (hml : c.maxLocals = ls.size) {own : String} {index : Nat} (hown : s.vm.findClass own = some m.cls) (hlink : (Cond.methodLink own index arraycopyName).before args s = true) (hnat : (Cond.native arraycopyName).before args s = true) (hstat : (Cond.static arraycopyName).before args s = true) (hini : (Cond.initialized "java/lang/System").before args s = true)
    (hK : va_K D cl tys s) (hP : va_P D cl ws H) (hD : va_D A ws) (hS : va_S A H0 H locs) {b0 n0 : Nat} {f : Nat → Int32} {scr : Cell} (hc0 : H[b0]? = some scr) (hs2 : s.isArrayOf scr .byte) (hs3 : scr.vm ≠ .unknown) (hs4 : n0 ≤ scr.slots.size) (hs5 : ∀ j : Nat, j < n0 → scr.slots[j]? = some (.int (f j)))
    (q1 t1 : Nat) {c1 : ClassId} {n1 : Nat} {g : Nat → Int32} (ha1 : ws[q1]? = some (a, .inl (c1, n1, .inl g))) (ht1 : tys[t1]? = some (c1, .byte))
    {sp dp n : Int32} (h1 : ¬ sp < 0) (h2 : ¬ dp < 0) (h3 : ¬ n < 0) (h4 : sp.toNatClampNeg + n.toNatClampNeg ≤ n0) (h5 : dp.toNatClampNeg + n.toNatClampNeg ≤ n1) (hfit : ∀ i : Nat, i < n.toNatClampNeg → fits .byte (.int (f (sp.toNatClampNeg + i))) = true)
    (hframes : 1 ≤ R.frames) (hlocals : (rest.map fun v => v.category).sum + (nativeFrameWords "java/lang/System" "arraycopy" 5 + 11) ≤ R.locals) (hdg : decode cc pc = .ok (.invokestatic index, 3))
    (kk : ∀ (H1 : Heap) (locs1 : List Loc), H1.size = H.size → va_P D cl (ws.set q1 (a, .inl (c1, n1, .inl (va_cpy f g sp.toNatClampNeg dp.toNatClampNeg n.toNatClampNeg)))) H1 → va_S A H0 H1 locs1 → W p l e R s m args below meth c H1 locs1 cells slots Q (F0 m (pc + 3) ls rest)) : W p l e R s m args below meth c H locs cells slots Q (F0 m pc ls (.int n :: .int dp :: .ref a :: .int sp :: .ref b0 :: rest)) := by
  have nn : ∀ z : Int32, ¬ z < 0 → z.toInt = (z.toNatClampNeg : Int) := by
    intro z hz
    have hz0 : (0 : Int) ≤ z.toInt := by
      have := Int32.not_lt.mp hz
      simpa using Int32.le_iff_toInt_le.mp this
    show z.toInt = ((z.toInt.toNat : Nat) : Int)
    omega
  intro T hT X
  have hc1 : H[a]? = some (vp_cell c1 (n1, .inl g)) := hP q1 _ ha1
  obtain ⟨hs6, k0, hk0, cm0, hkk0⟩ := hs2
  obtain ⟨-, k1, hk1, cm1, hkk1⟩ := (hK.2 t1 _ ht1).1 n1 (fun j => .int (g j))
  obtain ⟨vm', X', step⟩ := X.arraycopy hexec hown hlink hnat hstat hini (src := b0) (dst := a) (cs := scr) (cd := vp_cell c1 (n1, .inl g)) (srcPos := sp) (destPos := dp) (n := n) (by rw [hT]; exact hc0) (by rw [hT]; exact hc1)
    hs6 (fun _ h => by cases h) hs3 (fun h => by cases h) hk0 hk1 hkk0 hkk1 (by simp [refKind]) h1 h2 h3
    (by rw [nn sp h1, nn n h3]; omega)
    (by rw [nn dp h2, nn n h3]; show ¬ _ > ((arrV c1 n1 (fun j => .int (g j))).slots.size : Int); rw [arrV_size]; omega)
    (fun vm₁ _ i hi => by
      have e : scr.slots.getD (sp.toNatClampNeg + i) .null = .int (f (sp.toNatClampNeg + i)) := by
        rw [Array.getD_eq_getD_getElem?, hs5 _ (by omega)]
        rfl
      refine ⟨?_, ?_⟩
      · rw [e]
        exact hfit i hi
      · rw [e]
        exact trivial)
    (g := F0 m pc ls (.int n :: .int dp :: .ref a :: .int sp :: .ref b0 :: rest)) rfl (by rw [hml]) (rest := rest) rfl (by rw [hb]; exact hdg) hframes (by show 2 * 0 + _ + _ ≤ _; omega)
  have e1 : copied scr (vp_cell c1 (n1, .inl g)) sp dp n = vp_cell c1 (n1, .inl (va_cpy f g sp.toNatClampNeg dp.toNatClampNeg n.toNatClampNeg)) := va_copiedX (fun z => .int z) scr c1 f g hs5 h4
  rw [e1] at X' step
  have hl : a < H.size := (Array.getElem?_eq_some_iff.mp hc1).1
  have hheap : ((T.setVm vm').setCell a (vp_cell c1 (n1, .inl (va_cpy f g sp.toNatClampNeg dp.toNatClampNeg n.toNatClampNeg)))).heap = H.setIfInBounds a (vp_cell c1 (n1, .inl (va_cpy f g sp.toNatClampNeg dp.toNatClampNeg n.toNatClampNeg))) := by rw [← hT]; rfl
  have oq : ∀ q : Nat, q ≠ a → (H.setIfInBounds a (vp_cell c1 (n1, .inl (va_cpy f g sp.toNatClampNeg dp.toNatClampNeg n.toNatClampNeg))))[q]? = H[q]? := fun q hq => by simp [Array.getElem?_setIfInBounds, Ne.symm hq]
  obtain ⟨t, a1, b1⟩ := kk _ _ (by simp) (hP.set hD ha1 (show (H.setIfInBounds a _)[a]? = some _ by simp [Array.getElem?_setIfInBounds, hl]) oq) ⟨by simp; exact hS.1, fun q g1 g2 => by
      rw [oq q (fun e => g2 (by rw [e]; exact hD.2 q1 _ ha1))]
      exact hS.2.1 q g1 g2, fun q hq => by
      rcases List.mem_append.mp hq with h | h
      · exact hS.2.2 q h
      · obtain ⟨z, -, hz⟩ := List.mem_map.mp h
        rw [← hz]
        exact hD.2 q1 _ ha1⟩ _ hheap X'
  exact ⟨t, step t a1, b1⟩
end
section
variable {own : String} {cc : ByteArray} {nL d kc ks : Nat} {Wk : tW} {k n pc q : Nat} {L : List (Option Value)} {S : List Value} {H H' : aH} {Pr : PrT}
theorem Core.ishl (C : Core own cc nL d kc ks Wk) {x y : Int32} (dg : decode cc pc = .ok (.ishl, 1)) (hq : pc + 1 = q) (kk : Wk k n q L (.int (x <<< (y &&& 31)) :: S) H) : Wk k n pc L (.int y :: .int x :: S) H := by
  obtain ⟨p, l, e, R, s, m, args, below, meth, c, Q, g, ca, D, sL, X, rfl⟩ := C
  subst hq
  intro Hr locs ls hN hS hl
  exact lv_ishl X.exec X.code dg (kk Hr locs ls hN hS hl)
theorem Core.ifnn (C : Core own cc nL d kc ks Wk) {x : Nat} {off : Int} {tgt : Nat} (dg : decode cc pc = .ok (.ifnonnull off, 3)) (ht : (pc : Int) + off = (tgt : Int)) (kk : Wk k n tgt L S H) : Wk k n pc L (.ref x :: S) H := by
  obtain ⟨p, l, e, R, s, m, args, below, meth, c, Q, g, ca, D, sL, X, rfl⟩ := C
  intro Hr locs ls hN hS hl
  exact lv_ifnonnull X.exec X.code dg ht (kk Hr locs ls hN hS hl)
theorem Core.ldci (C : Core own cc nL d kc ks Wk) {idx : Nat} {v : Int32} (hc : wok (.constant own idx v)) (dg : decode cc pc = .ok (.ldc idx, 2)) (hq : pc + 2 = q) (kk : Wk k n q L (.int v :: S) H) : Wk k n pc L S H := by
  obtain ⟨p, l, e, R, s, m, args, below, meth, c, Q, g, ca, D, sL, X, rfl⟩ := C
  subst hq
  intro Hr locs ls hN hS hl
  exact lv_ldc X.exec X.code X.ow (X.word hc args) dg (kk Hr locs ls hN hS hl)
theorem Core.bald (C : Core own cc nL d kc ks Wk) {i len j : Nat} {f : Nat → Int32} (hH : H.2.2 i = .inl (2, len, .inl f)) (hi : i < H.2.1) (hj : j < len) (h31 : len < 2147483648) (dg : decode cc pc = .ok (.baload, 1)) (hq : pc + 1 = q) (kk : Wk k n q L (.int (f j) :: S) H) : Wk k n pc L (.int (nI j) :: .ref i :: S) H := by
  obtain ⟨p, l, e, R, s, m, args, below, meth, c, Q, g, ca, D, sL, X, rfl⟩ := C
  subst hq
  intro Hr locs ls hN hS hl
  have e1 : rv g (.ref i) = .ref (g.1 + i) := by show Value.ref (ra g i) = _; rw [ra_lt (Nat.lt_of_lt_of_le hi hN.1)]
  show W _ _ _ _ _ _ _ _ _ _ _ _ _ _ _ (F0 m pc ls (.int (nI j) :: rv g (.ref i) :: S.map (rv g)))
  rw [e1]
  refine va_bald X.exec X.code X.K hN.2.1 i 2 (f := f) (by rw [rW_get hi, hH]; rfl) rfl (vp_in_nI hj h31) dg ?_
  rw [nI_clamp (by omega)]
  exact kk Hr locs ls hN hS hl
theorem Core.bast (C : Core own cc nL d kc ks Wk) {i len j : Nat} {f : Nat → Int32} {y : Int32} (hH : H.2.2 i = .inl (2, len, .inl f)) (hi : i < H.2.1) (hj : j < len) (h31 : len < 2147483648) (hs : sH H i (.inl (2, len, .inl (upd f j (vp_nar .byte y)))) = H') (dg : decode cc pc = .ok (.bastore, 1)) (hq : pc + 1 = q) (kk : Wk k n q L S H') : Wk k n pc L (.int y :: .int (nI j) :: .ref i :: S) H := by
  obtain ⟨p, l, e, R, s, m, args, below, meth, c, Q, g, ca, D, sL, X, rfl⟩ := C
  subst hq
  intro Hr locs ls hN hS hl
  have e1 : rv g (.ref i) = .ref (g.1 + i) := by show Value.ref (ra g i) = _; rw [ra_lt (Nat.lt_of_lt_of_le hi hN.1)]
  show W _ _ _ _ _ _ _ _ _ _ _ _ _ _ _ (F0 m pc ls (.int y :: .int (nI j) :: rv g (.ref i) :: S.map (rv g)))
  rw [e1]
  refine zz_bast X.exec X.code X.K hN.2.1 (rW_D hN.1) hS i 2 (f := f) (by rw [rW_get hi, hH]; rfl) rfl (vp_in_nI hj h31) dg (fun H1 locs1 hz hP1 hS1 => kk H1 locs1 ls (wld_set hN hi hs rfl ?_ hP1 hz) hS1 hl)
  rw [nI_clamp (by omega)]; rfl
theorem copy_room {R' : Room} (X : ∃ p l R s m meth c g ca D sL, Cx p l R s m meth c g ca D sL own cc nL d kc ks ∧ R = R') (hd : 2 ≤ d) {z : Nat} (hr : z ≤ 8) : 1 ≤ R'.frames ∧ z + (nativeFrameWords "java/lang/System" "arraycopy" 5 + 11) ≤ R'.locals := by
  obtain ⟨p, l, R, s, m, meth, c, g, ca, D, sL, X, rfl⟩ := X
  have hx1 := X.frames
  have hx2 := X.locals
  have hx3 : nativeFrameWords "java/lang/System" "arraycopy" 5 ≤ 100 := by decide +kernel
  omega
/-- System.arraycopy of bytes, in the world -/
theorem Core.cpb (C : Core own cc nL d kc ks Wk) {idx i j n0 n1 : Nat} {f f2 : Nat → Int32} {sp dp nn : Int32} (hw : wok (.methodLink own idx arraycopyName)) (hi : i < H.2.1) (hj : j < H.2.1) (ha : H.2.2 i = .inl (2, n0, .inl f)) (hb : H.2.2 j = .inl (2, n1, .inl f2)) (h1 : ¬ sp < 0) (h2 : ¬ dp < 0) (h3 : ¬ nn < 0)
    (h4 : sp.toNatClampNeg + nn.toNatClampNeg ≤ n0) (h5 : dp.toNatClampNeg + nn.toNatClampNeg ≤ n1) (hfit : ∀ i : Nat, i < nn.toNatClampNeg → fits .byte (.int (f (sp.toNatClampNeg + i))) = true) (hd : 2 ≤ d) (hr : (S.map fun v => v.category).sum ≤ 8) (hs : sH H j (.inl (2, n1, .inl (va_cpy f f2 sp.toNatClampNeg dp.toNatClampNeg nn.toNatClampNeg))) = H')
    (dg : decode cc pc = .ok (.invokestatic idx, 3)) (hq : pc + 3 = q) (kk : Wk k n q L S H') : Wk k n pc L (.int nn :: .int dp :: .ref j :: .int sp :: .ref i :: S) H := by
  obtain ⟨p, l, e, R, s, m, args, below, meth, c, Q, g, ca, D, sL, X, rfl⟩ := C
  subst hq
  intro Hr locs ls hN hS hl
  have e1 : rv g (.ref i) = .ref (g.1 + i) := by show Value.ref (ra g i) = _; rw [ra_lt (Nat.lt_of_lt_of_le hi hN.1)]
  have e2 : rv g (.ref j) = .ref (g.1 + j) := by show Value.ref (ra g j) = _; rw [ra_lt (Nat.lt_of_lt_of_le hj hN.1)]
  have hx := copy_room ⟨p, l, R, s, m, meth, c, g, ca, D, sL, X, rfl⟩ hd (z := ((S.map (rv g)).map fun v => v.category).sum) (by rw [sum_rv]; exact hr)
  show W _ _ _ _ _ _ _ _ _ _ _ _ _ _ _ (F0 m pc ls (.int nn :: .int dp :: rv g (.ref j) :: .int sp :: rv g (.ref i) :: S.map (rv g)))
  rw [e1]
  rw [e2]
  exact zz_cpb X.exec X.code (X.max.trans hl.1.symm) X.ow (X.word hw args) (X.word nat_arraycopy args) (X.word sw_arraycopy args) (X.word iw_System args) X.K hN.2.1 (rW_D hN.1) hS (n0 := n0) (f := f) (scr := arrV (ca 2) n0 (fun j => .int (f j))) (by have h := hN.2.1 i _ (rW_get hi); rw [ha] at h; exact h) ((X.K.2 2 (ca 2, .byte) rfl).1 n0 (fun j => .int (f j))) (fun h => by cases h) (by rw [arrV_size]; exact Nat.le_refl _) (fun z hz => arrV_read _ _ hz) j 2 (by rw [rW_get hj, hb]; rfl) rfl h1 h2 h3 h4 h5 hfit hx.1 hx.2 dg
    (fun H1 locs1 hz hP1 hS1 => kk H1 locs1 ls (wld_set hN hj hs rfl rfl hP1 hz) hS1 hl)
/-- ... from a text outside -/
theorem CoG.cpbO (C : CoG Pr own cc nL d kc ks Wk) {idx a j n0 n1 : Nat} {f f2 : Nat → Int32} {sp dp nn : Int32} (hO : ∀ g s, Pr g s → va_T .byte a n0 (fun j => .int (f j)) (aD g) s s.heap) (hw : wok (.methodLink own idx arraycopyName)) (hj : j < H.2.1) (hb : H.2.2 j = .inl (2, n1, .inl f2)) (h1 : ¬ sp < 0) (h2 : ¬ dp < 0) (h3 : ¬ nn < 0)
    (h4 : sp.toNatClampNeg + nn.toNatClampNeg ≤ n0) (h5 : dp.toNatClampNeg + nn.toNatClampNeg ≤ n1) (hfit : ∀ i : Nat, i < nn.toNatClampNeg → fits .byte (.int (f (sp.toNatClampNeg + i))) = true) (hd : 2 ≤ d) (hr : (S.map fun v => v.category).sum ≤ 8) (hs : sH H j (.inl (2, n1, .inl (va_cpy f f2 sp.toNatClampNeg dp.toNatClampNeg nn.toNatClampNeg))) = H')
    (dg : decode cc pc = .ok (.invokestatic idx, 3)) (hq : pc + 3 = q) (kk : Wk k n q L S H') : Wk k n pc L (.int nn :: .int dp :: .ref j :: .int sp :: .ref (a + 1000) :: S) H := by
  obtain ⟨p, l, e, R, s, m, args, below, meth, c, Q, g, ca, D, sL, X, hPr, rfl⟩ := C
  subst hq
  intro Hr locs ls hN hS hl
  have e2 : rv g (.ref j) = .ref (g.1 + j) := by show Value.ref (ra g j) = _; rw [ra_lt (Nat.lt_of_lt_of_le hj hN.1)]
  have hx := copy_room ⟨p, l, R, s, m, meth, c, g, ca, D, sL, X, rfl⟩ hd (z := ((S.map (rv g)).map fun v => v.category).sum) (by rw [sum_rv]; exact hr)
  show W _ _ _ _ _ _ _ _ _ _ _ _ _ _ _ (F0 m pc ls (.int nn :: .int dp :: rv g (.ref j) :: .int sp :: .ref (ra g (a + 1000)) :: S.map (rv g)))
  rw [ra_out, e2]
  obtain ⟨scr, t1, t2, t3, t4, -, t5, t7⟩ := hO g s hPr
  have hc0 : Hr[a]? = some scr := by rw [hS.2.1 a (Array.getElem?_eq_some_iff.mp t1).1 t7]; exact t1
  exact zz_cpb X.exec X.code (X.max.trans hl.1.symm) X.ow (X.word hw args) (X.word nat_arraycopy args) (X.word sw_arraycopy args) (X.word iw_System args) X.K hN.2.1 (rW_D hN.1) hS (n0 := n0) (f := f) hc0 t2 t3 t4 t5 j 2 (by rw [rW_get hj, hb]; rfl) rfl h1 h2 h3 h4 h5 hfit hx.1 hx.2 dg
    (fun H1 locs1 hz hP1 hS1 => kk H1 locs1 ls (wld_set hN hj hs rfl rfl hP1 hz) hS1 hl)
end
/-! calls of inherited, private and super methods -/
def UM (x y : MethodName) (cb : ByteArray) (mL : Nat) (rt : Option FieldType) (na : Nat) : Prop :=
  MOk y na ∧ MOk x na ∧ wok (.code y cb mL rt) ∧ wok (.instanceMethod y) ∧ wok (.sameMethod x.cls x.cls x.name x.desc) ∧ (∃ (xb : ByteArray) (xm : Nat) (xr : Option FieldType), wok (.code x xb xm xr) ∧ wok (.instanceMethod x)) ∧ (wok (.selects RJ4 x y) ∨ (y = x ∧ (Cond.privateMethod x) ∈ lw_tbl)) ∧ mL ≤ 45
def SUM (own : String) (y : MethodName) (cb : ByteArray) (mL : Nat) (rt : Option FieldType) (na : Nat) : Prop :=
  MOk y na ∧ wok (.code y cb mL rt) ∧ wok (.instanceMethod y) ∧ wok (.sameMethod y.cls y.cls y.name y.desc) ∧ wok (.superclass own y.cls) ∧ y.name ≠ "<init>" ∧ mL ≤ 45
theorem met_of {l : Launch} {y : MethodName} {ws : List Cond} {rm : Room} {Pc : Array Value → State → Prop} {g : Nat × Nat} {ca : Nat → ClassId} {D : va_G} {v : Option Value} {H' : aH} {mc ms : Nat} {free : Addr → Prop}
    (h : vx_Met l y ws rm Pc (qR g ca D (.inl v) H') (qX g ca D (.inl v) H') mc ms free) : Met l y ws rm Pc (qR g ca D (.inl v) H') mc ms free := by
  refine Jvm.Free.MetFree.mono h (fun _ _ h => h) (fun _ _ _ _ _ h => h) (fun a st o t _ h4 => ?_)
  rcases h4 with h4 | ⟨q, -, E, ce, L, ⟨hx, -⟩, -⟩
  · exact h4
  · cases hx
section
variable {Pr : PrT} {p : Program} {l : Launch} {e : Env} {R : Room} {s : State} {m : MethodId} {args : Array Value} {below : List Frame} {meth : Method} {c : Code} {Q : State → Prop} {g : Nat × Nat} {ca : Nat → ClassId} {D : va_G} {sL : State} {own : String} {cc : ByteArray} {nL d kc ks : Nat}
theorem vrun_done {k n pc mc ms : Nat} {H' : aH} {Hr : Heap} {locs : List Loc} {ls : Array Slot} {st0 rest : List Value} {v : Option Value} {a : Array Value} (hr : va_Run p l e R s m args below meth c Hr locs k n mc ms (F0 m pc ls st0) rest (qR g ca D (.inl v) H' a) (aD g)) (hS : va_S (aD g) s.heap Hr locs)
    (kk : ∀ (H1 : Heap) (locs1 : List Loc), wld g ca D H' H1 → va_S (aD g) s.heap H1 locs1 → W p l e R s m args below meth c H1 locs1 (k + mc) (n + ms) Q (F0 m (pc + 3) ls ((v.map (rv g)).toList ++ rest))) : W p l e R s m args below meth c Hr locs k n Q (F0 m pc ls st0) := by
  intro T hT X
  obtain ⟨v2, st₀, t, T', L, h0, X', hL, e1, e2, ⟨v3, hv3, ho, hw, hF⟩, st⟩ := hr T hT X
  cases hv3
  cases ho
  obtain ⟨k1, k2, k3⟩ := vx_keep h0 e1 hS (fun _ _ h => h) (fun _ h => h) hL hF
  obtain ⟨t2, a1, b1⟩ := kk T'.heap (locs ++ L) (by rw [e1]; exact hw) k3 T' rfl X'
  exact ⟨t2, st t2 a1, b1⟩
theorem Cx.selP (X : Cx p l R s m meth c g ca D sL own cc nL d kc ks) {y : MethodName} (hsm : wok (.sameMethod y.cls y.cls y.name y.desc)) (hpriv : (Cond.privateMethod y) ∈ lw_tbl) (hin : wok (.instanceMethod y)) : (Cond.selects RJ4 y y).before args s = true := by
  obtain ⟨-, ⟨a0, h0⟩, -⟩ := X.1
  have hS : (Cond.selects RJ4 y y).before a0 sL = true := by
    obtain ⟨cn, ck, r1, hcn, hck, hni, hf, hn1⟩ := Cond.sameMethod_found (h0 _ hsm.1)
    obtain ⟨mk, methM, hnamed, hmethM, -, -⟩ := Cond.instanceMethod_spec (h0 _ hin.1)
    obtain ⟨c4, k4, hc4, hk4, -⟩ := Cond.instantiable_spec (h0 _ aw_J4.1)
    have e1 : r1 = mk := Option.some.inj (hn1.symm.trans hnamed)
    subst e1
    have hcls : r1.cls = cn := Option.some.inj ((findClass_of_methodNamed hnamed).symm.trans hcn)
    have hsel : selectMethod {} sL.vm c4 r1 = .method r1 := selectMethod_private hmethM (Cond.privateMethod_at (h0 _ hpriv) r1 methM hnamed hmethM)
    simp only [Cond.before, Cond.holds, Cond.value, hc4, hf, hnamed, hsel, hcls, hck]
    simp; exact hni
  exact word_at X.2.1 (good_of_word rfl) hS
theorem Cx.runU (X : Cx p l R s m meth c g ca D sL own cc nL d kc ks) (hok : prOk Pr) (hPr : Pr g s) {x y : MethodName} {cb : ByteArray} {mL na idx d' mc ms i k n pc : Nat} {rt : Option FieldType} {av S fs : List Value} {H H' : aH} {v : Option Value} {Hr : Heap} {locs : List Loc} {ls : Array Slot} {L : List (Option Value)}
    (hm : UM x y cb mL rt na) (hw : wok (.methodLink own idx x)) (hc : CtG Pr d' mc ms y (.code y cb mL rt) (.ref i :: av) H (.inl v) H') (hd : d' + 1 ≤ d) (hna : av.length = na) (hi : i < H.2.1) (hH : H.2.2 i = .inr (10, fs))
    (hsum : (S.map fun v => v.category).sum ≤ 8) (hk : k + mc ≤ kc) (hn : n + ms ≤ ks) (dg : decode cc pc = .ok (.invokevirtual idx, 3)) (hN : wld g ca D H Hr) (hS : va_S (aD g) s.heap Hr locs) (hl : lH g ls nL L) :
    va_Run p l e R s m args below meth c Hr locs k n mc ms (F0 m pc ls ((av.reverse ++ .ref i :: S).map (rv g))) (S.map (rv g)) (qR g ca D (.inl v) H' ((Value.ref i :: av).map (rv g)).toArray) (aD g) := by
  obtain ⟨u1, u2, u3, u4, u5, ⟨xb, xm, xr, u6, u7⟩, u8, u9⟩ := hm
  have hP := X.preG hok hPr (av := .ref i :: av) hN hS
  have hrv : ∃ cell : Cell, Hr[ra g i]? = some cell ∧ cell.vm.isStatics = false ∧ s.vm.findClass RJ4 = some cell.cls := by
    rw [ra_lt (Nat.lt_of_lt_of_le hi hN.1)]
    exact va_recv (q := (RJ4, TJ4, 4)) X.K hN.2.1 (ci := 10) (q0 := i) (fs := fs.map (rv g)) rfl (by rw [rW_get hi, hH]; rfl)
  have hsel : (Cond.selects RJ4 x y).before args s = true := by
    rcases u8 with h | ⟨rfl, h⟩
    · exact X.word h args
    · exact X.selP u5 h u4
  exact va_runU (x := x) (C := RJ4) (owner := x.cls) (b := ra g i) (As := av.map (rv g)) (rest := S.map (rv g)) (own := own) (Ts := []) (n := na) ⟨X.exec, X.code, X.max, X.ow, fun _ h => nomatch h⟩ (met_of (hc l sL g D ca X.gl))
    ⟨⟨rfl, rfl, (X.room hd u9 (mc := mc) (ms := ms)).1, (X.room hd u9 (mc := mc) (ms := ms)).2, wok_keep u3.2 (X.word u3 args), List.mem_cons_self⟩, X.word u3 args, X.word u1.1 args, u2.2.1, (fun sig h => by have h2 := u2.2.2.2; rw [h] at h2; exact (Option.some.inj h2).symm), X.word hw args, X.word u5 args, va_Decl.of (X.word u7 args) (X.word u6 args), hsel, X.word u4 args⟩
    ⟨hP.1, hrv, hP.2⟩ rfl (by rw [List.length_map]; exact hna) hl.1 (by show (av.reverse ++ .ref i :: S).map (rv g) = _; rw [List.map_append, List.map_reverse]; rfl) (lv_room (by rw [sum_rv]; exact hsum)) dg ⟨Nat.le_trans hk X.cells, Nat.le_trans hn X.slots⟩
theorem Cx.runSU (X : Cx p l R s m meth c g ca D sL own cc nL d kc ks) (hok : prOk Pr) (hPr : Pr g s) {y : MethodName} {cb : ByteArray} {mL na idx d' mc ms i k n pc : Nat} {rt : Option FieldType} {av S fs : List Value} {H H' : aH} {v : Option Value} {Hr : Heap} {locs : List Loc} {ls : Array Slot} {L : List (Option Value)}
    (hm : SUM own y cb mL rt na) (hw : wok (.methodLink own idx y)) (hc : CtG Pr d' mc ms y (.code y cb mL rt) (.ref i :: av) H (.inl v) H') (hd : d' + 1 ≤ d) (hna : av.length = na) (hi : i < H.2.1) (hH : H.2.2 i = .inr (10, fs))
    (hsum : (S.map fun v => v.category).sum ≤ 8) (hk : k + mc ≤ kc) (hn : n + ms ≤ ks) (dg : decode cc pc = .ok (.invokespecial idx, 3)) (hN : wld g ca D H Hr) (hS : va_S (aD g) s.heap Hr locs) (hl : lH g ls nL L) :
    va_Run p l e R s m args below meth c Hr locs k n mc ms (F0 m pc ls ((av.reverse ++ .ref i :: S).map (rv g))) (S.map (rv g)) (qR g ca D (.inl v) H' ((Value.ref i :: av).map (rv g)).toArray) (aD g) := by
  obtain ⟨u1, u2, u3, u4, u5, u6, u9⟩ := hm
  have hP := X.preG hok hPr (av := .ref i :: av) hN hS
  have hrv : ∃ cell : Cell, Hr[ra g i]? = some cell ∧ cell.vm.isStatics = false ∧ s.vm.findClass RJ4 = some cell.cls := by
    rw [ra_lt (Nat.lt_of_lt_of_le hi hN.1)]
    exact va_recv (q := (RJ4, TJ4, 4)) X.K hN.2.1 (ci := 10) (q0 := i) (fs := fs.map (rv g)) rfl (by rw [rW_get hi, hH]; rfl)
  exact va_runSU (C := RJ4) (X.K.1 10 _ rfl).2 (b := ra g i) (As := av.map (rv g)) (rest := S.map (rv g)) (own := own) (Ts := []) (n := na) ⟨X.exec, X.code, X.max, X.ow, fun _ h => nomatch h⟩ (met_of (hc l sL g D ca X.gl))
    ⟨⟨rfl, rfl, (X.room hd u9 (mc := mc) (ms := ms)).1, (X.room hd u9 (mc := mc) (ms := ms)).2, wok_keep u2.2 (X.word u2 args), List.mem_cons_self⟩, X.word hw args, X.word u4 args, X.word u5 args, X.word u3 args, X.word u1.1 args, X.word u2 args, u6, (fun sig h => by have h2 := u1.2.2.2; rw [h] at h2; exact (Option.some.inj h2).symm)⟩
    ⟨hP.1, hrv, hP.2⟩ rfl (by rw [List.length_map]; exact hna) hl.1 (by show (av.reverse ++ .ref i :: S).map (rv g) = _; rw [List.map_append, List.map_reverse]; rfl) (lv_room (by rw [sum_rv]; exact hsum)) dg ⟨Nat.le_trans hk X.cells, Nat.le_trans hn X.slots⟩
theorem Cx.runIG (X : Cx p l R s m meth c g ca D sL own cc nL d kc ks) (hok : prOk Pr) (hPr : Pr g s) {y : MethodName} {cb : ByteArray} {mL na idx d' mc ms i k n pc : Nat} {av S : List Value} {H H' : aH} {r : rR} {Hr : Heap} {locs : List Loc} {ls : Array Slot} {L : List (Option Value)}
    (hm : IM y cb mL na) (hw : wok (.methodLink own idx y)) (hc : CtG Pr d' mc ms y (.code y cb mL none) (.ref i :: av) H r H') (hd : d' + 1 ≤ d) (hna : av.length = na)
    (hsum : (S.map fun v => v.category).sum ≤ 8) (hk : k + mc ≤ kc) (hn : n + ms ≤ ks) (dg : decode cc pc = .ok (.invokespecial idx, 3)) (hN : wld g ca D H Hr) (hS : va_S (aD g) s.heap Hr locs) (hl : lH g ls nL L) :
    vx_Run p l e R s m args below meth c Hr locs k n mc ms (F0 m pc ls ((av.reverse ++ .ref i :: S).map (rv g))) (S.map (rv g)) (qR g ca D r H' ((Value.ref i :: av).map (rv g)).toArray) (qX g ca D r H') (aD g) := by
  obtain ⟨u1, u2, u3, u4, u5⟩ := hm
  exact vx_runI (b := ra g i) (As := av.map (rv g)) (rest := S.map (rv g)) (own := own) (Ts := []) ⟨X.exec, X.code, X.max, X.ow, fun _ h => nomatch h⟩ (hc l sL g D ca X.gl) ⟨X.callB u1 u2 hw hd u4, u5, X.word u3 args⟩ (X.preG hok hPr (av := .ref i :: av) hN hS) rfl (by rw [List.length_map]; exact hna) hl.1
    (by show (av.reverse ++ .ref i :: S).map (rv g) = _; rw [List.map_append, List.map_reverse]; rfl) (lv_room (by rw [sum_rv]; exact hsum)) dg ⟨Nat.le_trans hk X.cells, Nat.le_trans hn X.slots⟩
end
section
variable {Pr : PrT} {own : String} {cc : ByteArray} {nL d kc ks : Nat} {Wk : tW} {k n pc q : Nat} {L : List (Option Value)} {S St : List Value} {H H' H2 : aH} {ret : Option FieldType} {r : rR}
variable {x y : MethodName} {cb : ByteArray} {mL na idx d' mc ms i : Nat} {rt : Option FieldType} {av fs : List Value}
theorem CoG.callU {w : Value} (C : CoG Pr own cc nL d kc ks Wk) (hok : prOk Pr) (hm : UM x y cb mL rt na) (hw : wok (.methodLink own idx x)) (hc : CtG Pr d' mc ms y (.code y cb mL rt) (.ref i :: av) H (.inl (some w)) H') (hi : i < H.2.1) (hH : H.2.2 i = .inr (10, fs)) (hst : St = av.reverse ++ .ref i :: S) (hd : d' + 1 ≤ d) (hna : av.length = na) (hsum : (S.map fun v => v.category).sum ≤ 8) (hk : k + mc ≤ kc) (hn : n + ms ≤ ks) (dg : decode cc pc = .ok (.invokevirtual idx, 3)) (hq : pc + 3 = q)
    (kk : Wk (k + mc) (n + ms) q L (w :: S) H') : Wk k n pc L St H := by
  obtain ⟨p, l, e, R, s, m, args, below, meth, c, Q, g, ca, D, sL, X, hPr, rfl⟩ := C
  subst hq; subst hst
  intro Hr locs ls hN hS hl
  exact vrun_done (X.runU hok hPr hm hw hc hd hna hi hH hsum hk hn dg hN hS hl) hS (fun H1 locs1 hw1 hS1 => kk H1 locs1 ls hw1 hS1 hl)
theorem CoG.callUv (C : CoG Pr own cc nL d kc ks Wk) (hok : prOk Pr) (hm : UM x y cb mL rt na) (hw : wok (.methodLink own idx x)) (hc : CtG Pr d' mc ms y (.code y cb mL rt) (.ref i :: av) H (.inl none) H') (hi : i < H.2.1) (hH : H.2.2 i = .inr (10, fs)) (hst : St = av.reverse ++ .ref i :: S) (hd : d' + 1 ≤ d) (hna : av.length = na) (hsum : (S.map fun v => v.category).sum ≤ 8) (hk : k + mc ≤ kc) (hn : n + ms ≤ ks) (dg : decode cc pc = .ok (.invokevirtual idx, 3)) (hq : pc + 3 = q)
    (kk : Wk (k + mc) (n + ms) q L S H') : Wk k n pc L St H := by
  obtain ⟨p, l, e, R, s, m, args, below, meth, c, Q, g, ca, D, sL, X, hPr, rfl⟩ := C
  subst hq; subst hst
  intro Hr locs ls hN hS hl
  exact vrun_done (X.runU hok hPr hm hw hc hd hna hi hH hsum hk hn dg hN hS hl) hS (fun H1 locs1 hw1 hS1 => kk H1 locs1 ls hw1 hS1 hl)
theorem CoG.callSU {w : Value} (C : CoG Pr own cc nL d kc ks Wk) (hok : prOk Pr) (hm : SUM own y cb mL rt na) (hw : wok (.methodLink own idx y)) (hc : CtG Pr d' mc ms y (.code y cb mL rt) (.ref i :: av) H (.inl (some w)) H') (hi : i < H.2.1) (hH : H.2.2 i = .inr (10, fs)) (hst : St = av.reverse ++ .ref i :: S) (hd : d' + 1 ≤ d) (hna : av.length = na) (hsum : (S.map fun v => v.category).sum ≤ 8) (hk : k + mc ≤ kc) (hn : n + ms ≤ ks) (dg : decode cc pc = .ok (.invokespecial idx, 3)) (hq : pc + 3 = q)
    (kk : Wk (k + mc) (n + ms) q L (w :: S) H') : Wk k n pc L St H := by
  obtain ⟨p, l, e, R, s, m, args, below, meth, c, Q, g, ca, D, sL, X, hPr, rfl⟩ := C
  subst hq; subst hst
  intro Hr locs ls hN hS hl
  exact vrun_done (X.runSU hok hPr hm hw hc hd hna hi hH hsum hk hn dg hN hS hl) hS (fun H1 locs1 hw1 hS1 => kk H1 locs1 ls hw1 hS1 hl)
theorem CoG.callIv (C : CoG Pr own cc nL d kc ks Wk) (hok : prOk Pr) (hm : IM y cb mL na) (hw : wok (.methodLink own idx y)) (hc : CtG Pr d' mc ms y (.code y cb mL none) (.ref i :: av) H (.inl none) H') (hst : St = av.reverse ++ .ref i :: S) (hd : d' + 1 ≤ d) (hna : av.length = na) (hsum : (S.map fun v => v.category).sum ≤ 8) (hk : k + mc ≤ kc) (hn : n + ms ≤ ks) (dg : decode cc pc = .ok (.invokespecial idx, 3)) (hq : pc + 3 = q)
    (kk : Wk (k + mc) (n + ms) q L S H') : Wk k n pc L St H := by
  obtain ⟨p, l, e, R, s, m, args, below, meth, c, Q, g, ca, D, sL, X, hPr, rfl⟩ := C
  subst hq; subst hst
  intro Hr locs ls hN hS hl
  exact run_done (X.runIG hok hPr hm hw hc hd hna hsum hk hn dg hN hS hl) hS (fun H1 locs1 hw1 hS1 => kk H1 locs1 ls hw1 hS1 hl)
theorem CtG.mono {Pr Pr' : PrT} {w : Cond} (hsub : ∀ g U, Pr' g U → Pr g U) (h : CtG Pr d' mc ms y w av H r H') : CtG Pr' d' mc ms y w av H r H' := by
  intro l sL g D ca hG
  exact Jvm.Free.MetFree.mono (h l sL g D ca hG) (fun a U hP => ⟨hP.1, hsub g U hP.2⟩) (fun _ _ _ _ _ h => h) (fun a st o t _ h4 => h4)
/-- a contract out of a walk, of a constructor too -/
theorem CtG.ofI {LL : List (Option Value)} (hm : MOk y na) (ho : wok (.code y cb nL ret)) (hcat : av.all (fun v => v.category == 1) = true) (hlen : av.length ≤ nL) (hL : av.map some ++ List.replicate (nL - av.length) none = LL)
    (body : ∀ Wk : tW, CoG Pr y.cls cb nL d mc ms Wk → OkM y.cls cb nL d mc ms ret [] (y.name == "<init>") r H' Wk → Wk 0 0 0 LL [] H) : CtG Pr d mc ms y (.code y cb nL ret) av H r H' := by
  intro l sL g D ca hG
  refine vx_ofW hm.2.2.1 rfl ?_
  intro p e s m args below meth c s₁ B hml htab hP
  obtain ⟨⟨rfl, hW, hz, hlow, hwd⟩, hPr⟩ := hP
  have hown : s.vm.findClass y.cls = some m.cls := findClass_of_methodNamed B.named
  have X : Cx p l (rmD d mc ms) s m meth c g ca D sL y.cls cb nL d mc ms := ⟨hG, hW, hz, hlow, B.exec, B.bytes, hml, hown, B.notSynchronized, Nat.le_refl _, Nat.le_refl _, Nat.le_refl _, Nat.le_refl _⟩
  have ht : c.exceptionTable.toList = tableOf [] := by
    cases h : c.exceptionTable.toList with
    | nil => rfl
    | cons a t => exact (htab a (by rw [h]; exact List.mem_cons_self)).elim
  have h := body (vW p l e (rmD d mc ms) s m (av.map (rv g)).toArray below meth c (vx_MQ below (qR g ca D r H') (qX g ca D r H') (av.map (rv g)).toArray s mc ms (aD g)) g ca D nL)
    ⟨p, l, e, rmD d mc ms, s, m, (av.map (rv g)).toArray, below, meth, c, _, g, ca, D, sL, X, hPr, rfl⟩
    ⟨p, l, e, rmD d mc ms, s, m, (av.map (rv g)).toArray, below, meth, c, g, ca, D, sL, X, ht, B.returns, (fun hi => by rw [(name_of_methodNamed B.named B.method).1]; exact of_decide_eq_true (by simpa using hi)), rfl⟩
  show W p l e (rmD d mc ms) s m _ below meth c s.heap [] 0 0 _ (entryFrame m (av.map (rv g)).toArray nL)
  rw [lg_entry_eq]
  exact h s.heap [] _ hwd va_S.rf (entry_lH hcat hlen hL)
end
/-! ===== p36: StringBuilder: facts ===== -/
def tyJ4 : Nat → FieldType := fun k => match k with
  | 0 => .array .byte
  | 1 => .byte
  | 2 => .boolean
  | _ => .int
theorem nmJ4 : ∀ a, a < 4 → ∀ b, b < 4 → a ≠ b → (TJ4 a).2.1 ≠ (TJ4 b).2.1 := by decide +kernel
theorem tyJ4_ok : ∀ k, k < 4 → parseFieldDescriptor (TJ4 k).2.2.1 = some (tyJ4 k) := by decide +kernel
theorem inJ4 : ∀ w ∈ u_ws RJ4 TJ4 4, w ∈ lw_tbl := by
  show ∀ w ∈ ([u_lay RJ4 TJ4 0, u_lay RJ4 TJ4 1, u_lay RJ4 TJ4 2, u_lay RJ4 TJ4 3] : List Cond), w ∈ lw_tbl
  exact List.forall_mem_cons.mpr ⟨tin_5 _ (List.mem_of_getElem? (i := 132) rfl), List.forall_mem_cons.mpr ⟨tin_5 _ (List.mem_of_getElem? (i := 134) rfl), List.forall_mem_cons.mpr ⟨tin_5 _ (List.mem_of_getElem? (i := 136) rfl), List.forall_mem_cons.mpr ⟨tin_5 _ (List.mem_of_getElem? (i := 138) rfl), fun _ h => absurd h List.not_mem_nil⟩⟩⟩⟩
theorem inJ0 : ∀ w ∈ u_ws RJ0 TJ0 4, w ∈ lw_tbl := by
  show ∀ w ∈ ([u_lay RJ0 TJ0 0, u_lay RJ0 TJ0 1, u_lay RJ0 TJ0 2, u_lay RJ0 TJ0 3] : List Cond), w ∈ lw_tbl
  exact List.forall_mem_cons.mpr ⟨tin_5 _ (List.mem_of_getElem? (i := 81) rfl), List.forall_mem_cons.mpr ⟨tin_5 _ (List.mem_of_getElem? (i := 83) rfl), List.forall_mem_cons.mpr ⟨tin_6 _ (List.mem_of_getElem? (i := 76) rfl), List.forall_mem_cons.mpr ⟨tin_6 _ (List.mem_of_getElem? (i := 78) rfl), fun _ h => absurd h List.not_mem_nil⟩⟩⟩⟩
theorem fb_J5_15 : FOk RJ5 15 10 0 (.array .byte) false := ⟨RJ4, TJ4, 4, tyJ4, rfl, inJ4, tyJ4_ok, nmJ4, by decide, fw_J5_15, rfl, rfl, fun h => by cases h⟩
theorem fb_J5_22 : FOk RJ5 22 10 1 (.byte) false := ⟨RJ4, TJ4, 4, tyJ4, rfl, inJ4, tyJ4_ok, nmJ4, by decide, fw_J5_22, rfl, rfl, fun h => by cases h⟩
theorem fb_J5_79 : FOk RJ5 79 10 3 (.int) false := ⟨RJ4, TJ4, 4, tyJ4, rfl, inJ4, tyJ4_ok, nmJ4, by decide, fw_J5_79, rfl, rfl, fun h => by cases h⟩
theorem fb_J0_9 : FOk RJ0 9 0 0 (.array .byte) true := ⟨RJ0, TJ0, 4, tyJ0, rfl, inJ0, tyJ0_ok, nmJ0, by decide, fw_J0_9, rfl, rfl, fun _ => rfl⟩
theorem fb_J0_15 : FOk RJ0 15 0 1 (.byte) true := ⟨RJ0, TJ0, 4, tyJ0, rfl, inJ0, tyJ0_ok, nmJ0, by decide, fw_J0_15, rfl, rfl, fun _ => rfl⟩
theorem co_J4 : COk 10 RJ4 4 [.null, .int 0, .int 0, .int 0] := ⟨TJ4, tyJ4, rfl, inJ4, tyJ4_ok, fun j hj => by rcases (show j = 0 ∨ j = 1 ∨ j = 2 ∨ j = 3 by omega) with rfl | rfl | rfl | rfl <;> rfl⟩
theorem co_J0 : COk 0 RJ0 4 [.null, .int 0, .int 0, .int 0] := ⟨TJ0, tyJ0, rfl, inJ0, tyJ0_ok, fun j hj => by rcases (show j = 0 ∨ j = 1 ∨ j = 2 ∨ j = 3 by omega) with rfl | rfl | rfl | rfl <;> rfl⟩
theorem mkJ4_init_da8c8 : IM yJ4_init_da8c8 cJ4_init_da8c8 1 0 := ⟨⟨iw_J4, by decide +kernel, by decide +kernel, by decide +kernel⟩, owJ4_init_da8c8, vwJ4_init_da8c8, by decide, rfl⟩
theorem mkJ5_init_d00df : IM yJ5_init_d00df cJ5_init_d00df 2 1 := ⟨⟨iw_J5, by decide +kernel, by decide +kernel, by decide +kernel⟩, owJ5_init_d00df, vwJ5_init_d00df, by decide, rfl⟩
theorem mkJ6_stringSize_0f7a4 : SM yJ6_stringSize_0f7a4 cJ6_stringSize_0f7a4 4 (some (.int)) 1 := ⟨⟨iw_J6, by decide +kernel, by decide +kernel, by decide +kernel⟩, owJ6_stringSize_0f7a4, swJ6_stringSize_0f7a4, by decide⟩
theorem mkJ6_getChars_ba4f3 : SM yJ6_getChars_ba4f3 cJ6_getChars_ba4f3 7 (some (.int)) 3 := ⟨⟨iw_J6, by decide +kernel, by decide +kernel, by decide +kernel⟩, owJ6_getChars_ba4f3, swJ6_getChars_ba4f3, by decide⟩
theorem mkJ7_copyOf_9075b : SM yJ7_copyOf_9075b cJ7_copyOf_9075b 3 (some (.array .byte)) 2 := ⟨⟨iw_J7, by decide +kernel, by decide +kernel, by decide +kernel⟩, owJ7_copyOf_9075b, swJ7_copyOf_9075b, by decide⟩
theorem mkJ7_copyOfRange_39247 : SM yJ7_copyOfRange_39247 cJ7_copyOfRange_39247 3 (some (.array .byte)) 3 := ⟨⟨iw_J7, by decide +kernel, by decide +kernel, by decide +kernel⟩, owJ7_copyOfRange_39247, swJ7_copyOfRange_39247, by decide⟩
theorem mkJ7_copyOfRangeByte_39247 : SM yJ7_copyOfRangeByte_39247 cJ7_copyOfRangeByte_39247 5 (some (.array .byte)) 3 := ⟨⟨iw_J7, by decide +kernel, by decide +kernel, by decide +kernel⟩, owJ7_copyOfRangeByte_39247, swJ7_copyOfRangeByte_39247, by decide⟩
theorem mkJ7_checkLength_df160 : SM yJ7_checkLength_df160 cJ7_checkLength_df160 2 none 2 := ⟨⟨iw_J7, by decide +kernel, by decide +kernel, by decide +kernel⟩, owJ7_checkLength_df160, swJ7_checkLength_df160, by decide⟩
theorem mkJ8_newLength_cabcc : SM yJ8_newLength_cabcc cJ8_newLength_cabcc 4 (some (.int)) 3 := ⟨⟨iw_J8, by decide +kernel, by decide +kernel, by decide +kernel⟩, owJ8_newLength_cabcc, swJ8_newLength_cabcc, by decide⟩
theorem mkJ4_append_15ec4 : VM yJ4_append_15ec4 cJ4_append_15ec4 2 (some (.object "java/lang/StringBuilder")) 1 10 := ⟨⟨iw_J4, by decide +kernel, by decide +kernel, by decide +kernel⟩, owJ4_append_15ec4, vwJ4_append_15ec4, lwJ4_append_15ec4, by decide, _, _, rfl⟩
theorem mkJ4_append_bf812 : VM yJ4_append_bf812 cJ4_append_bf812 2 (some (.object "java/lang/StringBuilder")) 1 10 := ⟨⟨iw_J4, by decide +kernel, by decide +kernel, by decide +kernel⟩, owJ4_append_bf812, vwJ4_append_bf812, lwJ4_append_bf812, by decide, _, _, rfl⟩
theorem mkJ4_toString_0e30d : VM yJ4_toString_0e30d cJ4_toString_0e30d 1 (some (.object "java/lang/String")) 0 10 := ⟨⟨iw_J4, by decide +kernel, by decide +kernel, by decide +kernel⟩, owJ4_toString_0e30d, vwJ4_toString_0e30d, lwJ4_toString_0e30d, by decide, _, _, rfl⟩
theorem umJ5_isLatin1_aae02 : UM yJ5_isLatin1_aae02 yJ5_isLatin1_aae02 cJ5_isLatin1_aae02 1 (some (.boolean)) 0 := ⟨⟨iw_J5, by decide +kernel, by decide +kernel, by decide +kernel⟩, ⟨iw_J5, by decide +kernel, by decide +kernel, by decide +kernel⟩, owJ5_isLatin1_aae02, vwJ5_isLatin1_aae02, ewJ5_isLatin1_aae02, ⟨_, _, _, owJ5_isLatin1_aae02, vwJ5_isLatin1_aae02⟩, Or.inl lwJ5_isLatin1_aae02, by decide⟩
theorem umJ5_getValue_6d5f1 : UM yJ5_getValue_6d5f1 yJ5_getValue_6d5f1 cJ5_getValue_6d5f1 1 (some (.array .byte)) 0 := ⟨⟨iw_J5, by decide +kernel, by decide +kernel, by decide +kernel⟩, ⟨iw_J5, by decide +kernel, by decide +kernel, by decide +kernel⟩, owJ5_getValue_6d5f1, vwJ5_getValue_6d5f1, ewJ5_getValue_6d5f1, ⟨_, _, _, owJ5_getValue_6d5f1, vwJ5_getValue_6d5f1⟩, Or.inl lwJ5_getValue_6d5f1, by decide⟩
theorem umJ5_ensureCapacityInternal_d00df : UM yJ5_ensureCapacityInternal_d00df yJ5_ensureCapacityInternal_d00df cJ5_ensureCapacityInternal_d00df 3 none 1 := ⟨⟨iw_J5, by decide +kernel, by decide +kernel, by decide +kernel⟩, ⟨iw_J5, by decide +kernel, by decide +kernel, by decide +kernel⟩, owJ5_ensureCapacityInternal_d00df, vwJ5_ensureCapacityInternal_d00df, ewJ5_ensureCapacityInternal_d00df, ⟨_, _, _, owJ5_ensureCapacityInternal_d00df, vwJ5_ensureCapacityInternal_d00df⟩, Or.inr ⟨rfl, pwJ5_ensureCapacityInternal_d00df⟩, by decide⟩
theorem umJ5_newCapacity_0f7a4 : UM yJ5_newCapacity_0f7a4 yJ5_newCapacity_0f7a4 cJ5_newCapacity_0f7a4 6 (some (.int)) 1 := ⟨⟨iw_J5, by decide +kernel, by decide +kernel, by decide +kernel⟩, ⟨iw_J5, by decide +kernel, by decide +kernel, by decide +kernel⟩, owJ5_newCapacity_0f7a4, vwJ5_newCapacity_0f7a4, ewJ5_newCapacity_0f7a4, ⟨_, _, _, owJ5_newCapacity_0f7a4, vwJ5_newCapacity_0f7a4⟩, Or.inr ⟨rfl, pwJ5_newCapacity_0f7a4⟩, by decide⟩
theorem umJ5_putStringAt_47b60 : UM yJ5_putStringAt_47b60 yJ5_putStringAt_47b60 cJ5_putStringAt_47b60 3 none 2 := ⟨⟨iw_J5, by decide +kernel, by decide +kernel, by decide +kernel⟩, ⟨iw_J5, by decide +kernel, by decide +kernel, by decide +kernel⟩, owJ5_putStringAt_47b60, vwJ5_putStringAt_47b60, ewJ5_putStringAt_47b60, ⟨_, _, _, owJ5_putStringAt_47b60, vwJ5_putStringAt_47b60⟩, Or.inr ⟨rfl, pwJ5_putStringAt_47b60⟩, by decide⟩
theorem umJ5_inflateIfNeededFor_a7421 : UM yJ5_inflateIfNeededFor_a7421 yJ5_inflateIfNeededFor_a7421 cJ5_inflateIfNeededFor_a7421 2 none 1 := ⟨⟨iw_J5, by decide +kernel, by decide +kernel, by decide +kernel⟩, ⟨iw_J5, by decide +kernel, by decide +kernel, by decide +kernel⟩, owJ5_inflateIfNeededFor_a7421, vwJ5_inflateIfNeededFor_a7421, ewJ5_inflateIfNeededFor_a7421, ⟨_, _, _, owJ5_inflateIfNeededFor_a7421, vwJ5_inflateIfNeededFor_a7421⟩, Or.inr ⟨rfl, pwJ5_inflateIfNeededFor_a7421⟩, by decide⟩
theorem umJ5_length_8abf5 : UM yJ5_length_8abf5 yJ4_length_8abf5 cJ4_length_8abf5 1 (some (.int)) 0 := ⟨⟨iw_J4, by decide +kernel, by decide +kernel, by decide +kernel⟩, ⟨iw_J5, by decide +kernel, by decide +kernel, by decide +kernel⟩, owJ4_length_8abf5, vwJ4_length_8abf5, ewJ5_length_8abf5, ⟨_, _, _, owJ5_length_8abf5, vwJ5_length_8abf5⟩, Or.inl lwJ5_length_8abf5, by decide⟩
theorem suJ5_append_cf1ce : SUM RJ4 yJ5_append_cf1ce cJ5_append_cf1ce 3 (some (.object "java/lang/AbstractStringBuilder")) 1 := ⟨⟨iw_J5, by decide +kernel, by decide +kernel, by decide +kernel⟩, owJ5_append_cf1ce, vwJ5_append_cf1ce, ewJ5_append_cf1ce, uw_J4, by decide, by decide⟩
theorem suJ5_append_c97b9 : SUM RJ4 yJ5_append_c97b9 cJ5_append_c97b9 4 (some (.object "java/lang/AbstractStringBuilder")) 1 := ⟨⟨iw_J5, by decide +kernel, by decide +kernel, by decide +kernel⟩, owJ5_append_c97b9, vwJ5_append_c97b9, ewJ5_append_c97b9, uw_J4, by decide, by decide⟩
theorem suJ5_length_8abf5 : SUM RJ4 yJ5_length_8abf5 cJ5_length_8abf5 1 (some (.int)) 0 := ⟨⟨iw_J5, by decide +kernel, by decide +kernel, by decide +kernel⟩, owJ5_length_8abf5, vwJ5_length_8abf5, ewJ5_length_8abf5, uw_J4, by decide, by decide⟩
