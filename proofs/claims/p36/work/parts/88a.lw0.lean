/-! ===== p36: the law's level: several objects in one heap ===== -/
abbrev WL : Type := List (Nat × aH)
/-- the parts of the world, in their order in the heap -/
def wL (ca : Nat → ClassId) (D : va_G) : WL → Nat → Heap → Prop
  | [], lo, Hr => lo ≤ Hr.size
  | q :: ws, lo, Hr => lo ≤ q.1 ∧ wld (q.1, 0) ca D q.2 Hr ∧ wL ca D ws (q.1 + q.2.2.1) Hr
def unF (ws : WL) : Prop := ∀ q ∈ ws, q.2.1 = false
section
variable {ca : Nat → ClassId} {D : va_G} {Hr H1 : Heap}
theorem wld_g {a P P' : Nat} {H : aH} (h : wld (a, P) ca D H Hr) : wld (a, P') ca D H Hr := h
theorem wld_lt {g : Nat × Nat} {H : aH} (h : wld g ca D H Hr) {k : Nat} (hk : k < H.2.1) : g.1 + k < Hr.size := (h.2.1 k _ (rW_get hk)).lt
theorem wld_keep {a : Nat} {H : aH} (h : wld (a, 0) ca D H Hr) (hf : H.1 = false) (hk : ∀ q : Nat, q < Hr.size → a ≤ q → q < a + H.2.1 → H1[q]? = Hr[q]?) : wld (a, 0) ca D H H1 := by
  refine ⟨h.1, h.2.1.kept (fun k x hx => ?_), fun h9 => by rw [hf] at h9; cases h9⟩
  obtain ⟨h2, rfl⟩ := rW_inv hx
  exact hk _ (wld_lt h h2) (Nat.le_add_right _ _) (Nat.add_lt_add_left h2 _)
theorem wL_mono : ∀ (ws : WL) {lo lo' : Nat}, lo' ≤ lo → wL ca D ws lo Hr → wL ca D ws lo' Hr
  | [], _, _, h, hw => Nat.le_trans h hw
  | _ :: _, _, _, h, hw => ⟨Nat.le_trans h hw.1, hw.2.1, hw.2.2⟩
theorem wL_size : ∀ (ws : WL) {lo : Nat}, wL ca D ws lo Hr → lo ≤ Hr.size
  | [], _, hw => hw
  | q :: ws, lo, hw => by have h1 := wL_size ws hw.2.2; have h2 := hw.1; omega
theorem wL_keep : ∀ (ws : WL) {lo : Nat}, unF ws → Hr.size ≤ H1.size → (∀ q : Nat, q < Hr.size → lo ≤ q → H1[q]? = Hr[q]?) → wL ca D ws lo Hr → wL ca D ws lo H1
  | [], _, _, hs, _, hw => Nat.le_trans hw hs
  | q :: ws, lo, hu, hs, hk, hw => ⟨hw.1, wld_keep hw.2.1 (hu q List.mem_cons_self) (fun x hx h1 _ => hk x hx (Nat.le_trans hw.1 h1)),
      wL_keep ws (fun x hx => hu x (List.mem_cons_of_mem _ hx)) hs (fun x hx h1 => hk x hx (by have := hw.1; omega)) hw.2.2⟩
theorem wL_lo : ∀ (w1 : WL) {lo : Nat} {q : Nat × aH} {w2 : WL}, wL ca D (w1 ++ q :: w2) lo Hr → lo ≤ q.1 ∧ wld (q.1, 0) ca D q.2 Hr
  | [], _, _, _, hw => ⟨hw.1, hw.2.1⟩
  | x :: w1, lo, q, w2, hw => by
    obtain ⟨h1, h2⟩ := wL_lo w1 hw.2.2
    exact ⟨by have := hw.1; omega, h2⟩
theorem wL_upd {a : Nat} {H H' : aH} {w2 : WL} (h1 : wld (a, 0) ca D H' H1) (hz : H'.2.1 = H.2.1) (hs : Hr.size ≤ H1.size) (hk : ∀ q : Nat, q < Hr.size → ¬ (a ≤ q ∧ q < a + H.2.1) → H1[q]? = Hr[q]?) :
    ∀ (w1 : WL) {lo : Nat}, unF (w1 ++ w2) → wL ca D (w1 ++ (a, H) :: w2) lo Hr → wL ca D (w1 ++ (a, H') :: w2) lo H1
  | [], lo, hu, hw => ⟨hw.1, h1, by
      show wL ca D w2 (a + H'.2.1) H1
      rw [hz]
      exact wL_keep w2 hu hs (fun q hq h2 => hk q hq (fun h3 => by omega)) hw.2.2⟩
  | x :: w1, lo, hu, hw => ⟨hw.1, wld_keep hw.2.1 (hu x List.mem_cons_self) (fun q hq h2 h3 => hk q hq (fun h4 => by have h5 := (wL_lo w1 hw.2.2).1; have h6 : x.1 + x.2.2.1 ≤ a := h5; omega)),
      wL_upd h1 hz hs hk w1 (fun q hq => hu q (List.mem_cons_of_mem _ hq)) hw.2.2⟩
theorem wL_top {B : Nat} {H H' : aH} (h1 : wld (B, 0) ca D H' H1) (ht : B + H'.2.1 ≤ H1.size) (hk : ∀ q : Nat, q < Hr.size → q < B → H1[q]? = Hr[q]?) :
    ∀ (w1 : WL) {lo : Nat}, unF w1 → wL ca D (w1 ++ [(B, H)]) lo Hr → wL ca D (w1 ++ [(B, H')]) lo H1
  | [], _, _, hw => ⟨hw.1, h1, ht⟩
  | x :: w1, lo, hu, hw => ⟨hw.1, wld_keep hw.2.1 (hu x List.mem_cons_self) (fun q hq h2 h3 => hk q hq (by have h5 := (wL_lo w1 hw.2.2).1; have h6 : x.1 + x.2.2.1 ≤ B := h5; omega)),
      wL_top h1 ht hk w1 (fun q hq => hu q (List.mem_cons_of_mem _ hq)) hw.2.2⟩
theorem wL_open : ∀ (ws : WL) {lo : Nat}, wL ca D ws lo Hr → wL ca D (ws ++ [(Hr.size, hp [])]) lo Hr
  | [], _, hw => ⟨hw, ⟨Nat.zero_le _, fun k q hk => (nomatch hk), fun _ => rfl⟩, Nat.le_refl _⟩
  | x :: ws, _, hw => ⟨hw.1, hw.2.1, wL_open ws hw.2.2⟩
theorem wL_rm {q : Nat × aH} {w2 : WL} : ∀ (w1 : WL) {lo : Nat}, wL ca D (w1 ++ q :: w2) lo Hr → wL ca D (w1 ++ w2) lo Hr
  | [], _, hw => wL_mono w2 (by have := hw.1; omega) hw.2.2
  | x :: w1, _, hw => ⟨hw.1, hw.2.1, wL_rm w1 hw.2.2⟩
theorem gl_at {l : Launch} {sL : State} {s0 a P : Nat} (hG : Gl l sL (s0, 0) D ca) (h : s0 ≤ a) : Gl l sL (a, P) D ca :=
  ⟨hG.1, hG.2.1, Nat.le_trans hG.2.2.1 h, hG.2.2.2.1, hG.2.2.2.2.1.narrow (fun q hq => ⟨Nat.le_trans h hq.1, Or.inr (Nat.zero_le _)⟩), hG.2.2.2.2.2.1.narrow (fun q hq => ⟨Nat.le_trans h hq.1, Or.inr (Nat.zero_le _)⟩), hG.2.2.2.2.2.2.1, hG.2.2.2.2.2.2.2⟩
end
/-! facts of what lies outside, over any frame above -/
def lwS : List (Nat × String) := [(146, "w"), (154, ";w"), (180, ";g99"), (182, "w3"), (184, "n77"), (186, "l5:123"), (192, "w12"), (194, "g"), (196, "l5"), (198, ""), (200, "w1;"), (202, "n123"), (204, "r0;"), (206, "x"), (230, "l1:"), (232, ";l2:"), (234, ";q1:2;l3:"), (236, "16=0 4=1 2=2 2. 4=3 4. 32."), (245, "16=0 4. 2=1 2. 4=2 4. 32."), (247, "16=0 4. 1=1 1. 2. 4=2 4. 32."), (249, "16=0 8. 4=2 4=1 32."), (251, "16=0 8=1 4=2 4. 32."), (253, "16=0 8=1 8. 32."), (255, "64=0"), (261, "2. 2=0 4. 8. 16. 2=1 2. 4. 8. 16.")]
/-- a text's signs -/
def cds (tx : String) : List Int32 := tx.toList.map (fun ch => Int32.ofNat ch.toNat)
def PrG (t1 t2 : Nat) : PrT := fun g U =>
  va_Z "java/lang/String" "COMPACT_STRINGS" "Z" (.int 1) (aD g) U U.heap ∧ va_Z "java/lang/Integer" "DigitOnes" "[B" (.ref t1) (aD g) U U.heap ∧ va_Z "java/lang/Integer" "DigitTens" "[B" (.ref t2) (aD g) U U.heap ∧
  va_T .byte t1 100 (fun j => .int (nI (48 + j % 10))) (aD g) U U.heap ∧ va_T .byte t2 100 (fun j => .int (nI (48 + j / 10))) (aD g) U U.heap ∧ va_Zq "jdk/internal/util/Preconditions" "SIOOBE_FORMATTER" "Ljava/util/function/BiFunction;" (aD g) U U.heap
theorem prG_ok {t1 t2 : Nat} : prOk (PrG t1 t2) := by
  intro g U U' h hal hk
  obtain ⟨h1, h2, h3, h4, h5, h6⟩ := h
  have hq : ∀ a : Nat, a < U.heap.size → ¬ aD g a → U'.heap[a]? = U.heap[a]? := hk
  exact ⟨va_Z.moved hal (h1.kept hq), va_Z.moved hal (h2.kept hq), va_Z.moved hal (h3.kept hq), va_T.moved hal (h4.kept hq), va_T.moved hal (h5.kept hq), va_Zq.moved hal (h6.kept hq)⟩
/-- what is known over a frame is known over a narrower one -/
def prNr (Pr : PrT) : Prop := ∀ (g g' : Nat × Nat) (U : State), Pr g U → (∀ q, aD g' q → aD g q) → Pr g' U
theorem va_Z.nr {C n d : String} {v : Value} {A B : Nat → Prop} {U : State} {H : Heap} (h : va_Z C n d v A U H) (hAB : ∀ q, B q → A q) : va_Z C n d v B U H := by
  obtain ⟨cf, kf, fi, f, a, cell, h1, h2, h3, h4, h5, h6, h7, h8⟩ := h
  exact ⟨cf, kf, fi, f, a, cell, h1, h2, h3, h4, h5, h6, h7, fun hb => h8 (hAB a hb)⟩
theorem va_T.nr {ty : FieldType} {t N : Nat} {f : Nat → Value} {A B : Nat → Prop} {U : State} {H : Heap} (h : va_T ty t N f A U H) (hAB : ∀ q, B q → A q) : va_T ty t N f B U H := by
  obtain ⟨cell, h1, h2, h3, h4, h5, h6, h7⟩ := h
  exact ⟨cell, h1, h2, h3, h4, h5, h6, fun hb => h7 (hAB t hb)⟩
theorem va_O.nr {E : String} {t : Nat} {A B : Nat → Prop} {U : State} {H : Heap} (h : va_O E t A U H) (hAB : ∀ q, B q → A q) : va_O E t B U H := by
  obtain ⟨cell, h1, h2, h3, h4⟩ := h
  exact ⟨cell, h1, h2, h3, fun hb => h4 (hAB t hb)⟩
theorem va_OF.nr {o n d : String} {v : Value} {t : Nat} {A B : Nat → Prop} {U : State} {H : Heap} (h : va_OF o n d v t A U H) (hAB : ∀ q, B q → A q) : va_OF o n d v t B U H := by
  obtain ⟨cf, k, i, f, cell, h1, h2, h3, h4, h5, h6⟩ := h
  exact ⟨cf, k, i, f, cell, h1, h2, h3, h4, h5, fun hb => h6 (hAB t hb)⟩
theorem prG_nr {t1 t2 : Nat} : prNr (PrG t1 t2) := fun g g' U h hAB => ⟨h.1.nr hAB, h.2.1.nr hAB, h.2.2.1.nr hAB, h.2.2.2.1.nr hAB, h.2.2.2.2.1.nr hAB, h.2.2.2.2.2.narrow hAB⟩
theorem prS_nr {sa sd : Nat} {tx : List Int32} : prNr (PrS sa sd tx) := fun g g' U h hAB => ⟨h.1.nr hAB, h.2.1.nr hAB, h.2.2.1.nr hAB, h.2.2.2.1.nr hAB, h.2.2.2.2.1.nr hAB, h.2.2.2.2.2.narrow hAB⟩
theorem prX_nr {Ln b : Nat} {xs : Nat → Int32} : prNr (PrX Ln xs b) := fun g g' U h hAB => ⟨h.1, h.2.1, fun hb => h.2.2 (hAB b hb)⟩
/-- the fixed things of the law's run: the script (length, ints, address), Integer's two tables -/
abbrev FxT : Type := Nat × (Nat → Int32) × Nat × Nat × Nat
/-- the texts that are at hand -/
abbrev TxT : Type := List (Nat × Nat × List Int32)
def ExF (T : TxT) (F : FxT) (own : String) (s : State) (g : Nat × Nat) : Prop :=
  g = (s.heap.size, 0) ∧ PrX F.1 F.2.1 F.2.2.1 g s ∧ PrG F.2.2.2.1 F.2.2.2.2 g s ∧ (∀ q ∈ lwS, ∃ sa sd : Nat, vk_R own q.1 q.2 sa s ∧ PrS sa sd (cds q.2) g s) ∧ ∀ q ∈ T, PrS q.1 q.2.1 q.2.2 g s
abbrev lW : Type := Nat → Nat → Nat → List (Option Value) → List Value → WL → Prop
def vL (p : Program) (l : Launch) (e : Env) (R : Room) (s : State) (m : MethodId) (args : Array Value) (below : List Frame) (meth : Method) (c : Code) (Q : State → Prop) (g : Nat × Nat) (ca : Nat → ClassId) (D : va_G) (nL : Nat) : lW := fun k n pc L S H =>
  ∀ (Hr : Heap) (locs : List Loc) (ls : Array Slot), wL ca D H g.1 Hr → va_S (aD g) s.heap Hr locs → lH g ls nL L → W p l e R s m args below meth c Hr locs k n Q (F0 m pc ls (S.map (rv g)))
/-- the law's body -/
def CoL (T : TxT) (F : FxT) (own : String) (cc : ByteArray) (nL d kc ks : Nat) (Wk : lW) : Prop :=
  ∃ (p : Program) (l : Launch) (e : Env) (R : Room) (s : State) (m : MethodId) (args : Array Value) (below : List Frame) (meth : Method) (c : Code) (Q : State → Prop) (g : Nat × Nat) (ca : Nat → ClassId) (D : va_G) (sL : State),
    Cx p l R s m meth c g ca D sL own cc nL d kc ks ∧ ExF T F own s g ∧ Wk = vL p l e R s m args below meth c Q g ca D nL
section
variable {own : String} {cc : ByteArray} {nL d kc ks : Nat} {Wk : lW} {T : TxT} {F : FxT} {k n pc q : Nat} {L : List (Option Value)} {S : List Value} {H : WL}
theorem CoL.iadd (C : CoL T F own cc nL d kc ks Wk) {x y : Int32} (dg : decode cc pc = .ok (.iadd, 1)) (hq : pc + 1 = q) (kk : Wk k n q L (.int (x + y) :: S) H) : Wk k n pc L (.int y :: .int x :: S) H := by
  obtain ⟨p, l, e, R, s, m, args, below, meth, c, Q, g, ca, D, sL, X, hE, rfl⟩ := C
  subst hq
  intro Hr locs ls hN hS hl
  exact lv_iadd X.exec X.code dg (kk Hr locs ls hN hS hl)
theorem CoL.isub (C : CoL T F own cc nL d kc ks Wk) {x y : Int32} (dg : decode cc pc = .ok (.isub, 1)) (hq : pc + 1 = q) (kk : Wk k n q L (.int (x - y) :: S) H) : Wk k n pc L (.int y :: .int x :: S) H := by
  obtain ⟨p, l, e, R, s, m, args, below, meth, c, Q, g, ca, D, sL, X, hE, rfl⟩ := C
  subst hq
  intro Hr locs ls hN hS hl
  exact lv_isub X.exec X.code dg (kk Hr locs ls hN hS hl)
theorem CoL.imul (C : CoL T F own cc nL d kc ks Wk) {x y : Int32} (dg : decode cc pc = .ok (.imul, 1)) (hq : pc + 1 = q) (kk : Wk k n q L (.int (x * y) :: S) H) : Wk k n pc L (.int y :: .int x :: S) H := by
  obtain ⟨p, l, e, R, s, m, args, below, meth, c, Q, g, ca, D, sL, X, hE, rfl⟩ := C
  subst hq
  intro Hr locs ls hN hS hl
  exact lv_imul X.exec X.code dg (kk Hr locs ls hN hS hl)
theorem CoL.iand (C : CoL T F own cc nL d kc ks Wk) {x y : Int32} (dg : decode cc pc = .ok (.iand, 1)) (hq : pc + 1 = q) (kk : Wk k n q L (.int (x &&& y) :: S) H) : Wk k n pc L (.int y :: .int x :: S) H := by
  obtain ⟨p, l, e, R, s, m, args, below, meth, c, Q, g, ca, D, sL, X, hE, rfl⟩ := C
  subst hq
  intro Hr locs ls hN hS hl
  exact lv_iand X.exec X.code dg (kk Hr locs ls hN hS hl)
theorem CoL.irem (C : CoL T F own cc nL d kc ks Wk) {x y : Int32} (dg : decode cc pc = .ok (.irem, 1)) (hq : pc + 1 = q) (hne : ¬ y = 0) (kk : Wk k n q L (.int (x - x / y * y) :: S) H) : Wk k n pc L (.int y :: .int x :: S) H := by
  obtain ⟨p, l, e, R, s, m, args, below, meth, c, Q, g, ca, D, sL, X, hE, rfl⟩ := C
  subst hq
  intro Hr locs ls hN hS hl
  exact lv_irem X.exec X.code dg hne (kk Hr locs ls hN hS hl)
theorem CoL.ineg (C : CoL T F own cc nL d kc ks Wk) {x : Int32} (dg : decode cc pc = .ok (.ineg, 1)) (hq : pc + 1 = q) (kk : Wk k n q L (.int (-x) :: S) H) : Wk k n pc L (.int x :: S) H := by
  obtain ⟨p, l, e, R, s, m, args, below, meth, c, Q, g, ca, D, sL, X, hE, rfl⟩ := C
  subst hq
  intro Hr locs ls hN hS hl
  exact lv_ineg X.exec X.code dg (kk Hr locs ls hN hS hl)
theorem CoL.iconst (C : CoL T F own cc nL d kc ks Wk) {z : Int} {v : Int32} (dg : decode cc pc = .ok (.iconst z, 1)) (hq : pc + 1 = q) (hv : Int32.ofInt z = v) (kk : Wk k n q L (.int v :: S) H) : Wk k n pc L (S) H := by
  obtain ⟨p, l, e, R, s, m, args, below, meth, c, Q, g, ca, D, sL, X, hE, rfl⟩ := C
  subst hq
  intro Hr locs ls hN hS hl
  exact lv_iconst X.exec X.code dg hv (kk Hr locs ls hN hS hl)
theorem CoL.bipush (C : CoL T F own cc nL d kc ks Wk) {z : Int} {v : Int32} (dg : decode cc pc = .ok (.bipush z, 2)) (hq : pc + 2 = q) (hv : (Int8.ofInt z).toInt32 = v) (kk : Wk k n q L (.int v :: S) H) : Wk k n pc L (S) H := by
  obtain ⟨p, l, e, R, s, m, args, below, meth, c, Q, g, ca, D, sL, X, hE, rfl⟩ := C
  subst hq
  intro Hr locs ls hN hS hl
  exact lv_bipush X.exec X.code dg hv (kk Hr locs ls hN hS hl)
theorem CoL.sipush (C : CoL T F own cc nL d kc ks Wk) {z : Int} {v : Int32} (dg : decode cc pc = .ok (.sipush z, 3)) (hq : pc + 3 = q) (hv : (Int16.ofInt z).toInt32 = v) (kk : Wk k n q L (.int v :: S) H) : Wk k n pc L (S) H := by
  obtain ⟨p, l, e, R, s, m, args, below, meth, c, Q, g, ca, D, sL, X, hE, rfl⟩ := C
  subst hq
  intro Hr locs ls hN hS hl
  exact lv_sipush X.exec X.code dg hv (kk Hr locs ls hN hS hl)
theorem CoL.dup (C : CoL T F own cc nL d kc ks Wk) {v : Value} (dg : decode cc pc = .ok (.dup, 1)) (hq : pc + 1 = q) (hv : v.category = 1) (kk : Wk k n q L (v :: v :: S) H) : Wk k n pc L (v :: S) H := by
  obtain ⟨p, l, e, R, s, m, args, below, meth, c, Q, g, ca, D, sL, X, hE, rfl⟩ := C
  subst hq
  intro Hr locs ls hN hS hl
  exact lv_dup X.exec X.code dg ((rv_cat g v).trans hv) (kk Hr locs ls hN hS hl)
theorem CoL.pop (C : CoL T F own cc nL d kc ks Wk) {v : Value} (dg : decode cc pc = .ok (.pop, 1)) (hq : pc + 1 = q) (hv : v.category = 1) (kk : Wk k n q L (S) H) : Wk k n pc L (v :: S) H := by
  obtain ⟨p, l, e, R, s, m, args, below, meth, c, Q, g, ca, D, sL, X, hE, rfl⟩ := C
  subst hq
  intro Hr locs ls hN hS hl
  exact lv_pop X.exec X.code dg ((rv_cat g v).trans hv) (kk Hr locs ls hN hS hl)
theorem CoL.dconst0 (C : CoL T F own cc nL d kc ks Wk) (dg : decode cc pc = .ok (.dconst 0, 1)) (hq : pc + 1 = q) (kk : Wk k n q L (.double FP.dconst0 :: S) H) : Wk k n pc L (S) H := by
  obtain ⟨p, l, e, R, s, m, args, below, meth, c, Q, g, ca, D, sL, X, hE, rfl⟩ := C
  subst hq
  intro Hr locs ls hN hS hl
  exact lv_dconst0 X.exec X.code dg (kk Hr locs ls hN hS hl)
theorem CoL.dcmp (C : CoL T F own cc nL d kc ks Wk) {x y : UInt64} {op : CmpOp} (dg : decode cc pc = .ok (.dcmp op, 1)) (hq : pc + 1 = q) (kk : Wk k n q L (.int (Op.cmpValue (FP.dcmp x y) op) :: S) H) : Wk k n pc L (.double y :: .double x :: S) H := by
  obtain ⟨p, l, e, R, s, m, args, below, meth, c, Q, g, ca, D, sL, X, hE, rfl⟩ := C
  subst hq
  intro Hr locs ls hN hS hl
  exact lv_dcmp X.exec X.code dg (kk Hr locs ls hN hS hl)
theorem CoL.iload_n (C : CoL T F own cc nL d kc ks Wk) {z : Fin 4} {x : Int32} (dg : decode cc pc = .ok (.iload_n z, 1)) (hq : pc + 1 = q) (hx : L[(z : Nat)]? = some (some (.int x))) (kk : Wk k n q L (.int x :: S) H) : Wk k n pc L S H := by
  obtain ⟨p, l, e, R, s, m, args, below, meth, c, Q, g, ca, D, sL, X, hE, rfl⟩ := C
  subst hq
  intro Hr locs ls hN hS hl
  exact lv_iload_n X.exec X.code dg rfl (hl.2.2 _ _ hx) (kk Hr locs ls hN hS hl)
theorem CoL.iload (C : CoL T F own cc nL d kc ks Wk) {i : Nat} {x : Int32} (dg : decode cc pc = .ok (.iload i, 2)) (hq : pc + 2 = q) (hx : L[i]? = some (some (.int x))) (kk : Wk k n q L (.int x :: S) H) : Wk k n pc L S H := by
  obtain ⟨p, l, e, R, s, m, args, below, meth, c, Q, g, ca, D, sL, X, hE, rfl⟩ := C
  subst hq
  intro Hr locs ls hN hS hl
  exact lv_iload X.exec X.code dg (hl.2.2 _ _ hx) (kk Hr locs ls hN hS hl)
theorem CoL.aload_n (C : CoL T F own cc nL d kc ks Wk) {z : Fin 4} {x : Nat} (dg : decode cc pc = .ok (.aload_n z, 1)) (hq : pc + 1 = q) (hx : L[(z : Nat)]? = some (some (.ref x))) (kk : Wk k n q L (.ref x :: S) H) : Wk k n pc L S H := by
  obtain ⟨p, l, e, R, s, m, args, below, meth, c, Q, g, ca, D, sL, X, hE, rfl⟩ := C
  subst hq
  intro Hr locs ls hN hS hl
  exact lv_aload_n X.exec X.code dg rfl (hl.2.2 _ _ hx) (kk Hr locs ls hN hS hl)
theorem CoL.aload (C : CoL T F own cc nL d kc ks Wk) {i : Nat} {x : Nat} (dg : decode cc pc = .ok (.aload i, 2)) (hq : pc + 2 = q) (hx : L[i]? = some (some (.ref x))) (kk : Wk k n q L (.ref x :: S) H) : Wk k n pc L S H := by
  obtain ⟨p, l, e, R, s, m, args, below, meth, c, Q, g, ca, D, sL, X, hE, rfl⟩ := C
  subst hq
  intro Hr locs ls hN hS hl
  exact lv_aload X.exec X.code dg (hl.2.2 _ _ hx) (kk Hr locs ls hN hS hl)
theorem CoL.istore_n (C : CoL T F own cc nL d kc ks Wk) {z : Fin 4} {i : Nat} {x : Int32} (dg : decode cc pc = .ok (.istore_n z, 1)) (hq : pc + 1 = q) (hi : (z : Nat) = i) (h0 : i < nL) (h1 : oneL L i = true) (kk : Wk k n q (L.set i (some (.int x))) S H) : Wk k n pc L (.int x :: S) H := by
  obtain ⟨p, l, e, R, s, m, args, below, meth, c, Q, g, ca, D, sL, X, hE, rfl⟩ := C
  subst hq
  intro Hr locs ls hN hS hl
  exact lv_istore_n X.exec X.code dg hi (lH_has hl) h0 rfl (fun ls2 hl2 => kk Hr locs ls2 hN hS (lH_set (v := .int x) h1 hl2))
theorem CoL.istore (C : CoL T F own cc nL d kc ks Wk) {i : Nat} {x : Int32} (dg : decode cc pc = .ok (.istore i, 2)) (hq : pc + 2 = q) (h0 : i < nL) (h1 : oneL L i = true) (kk : Wk k n q (L.set i (some (.int x))) S H) : Wk k n pc L (.int x :: S) H := by
  obtain ⟨p, l, e, R, s, m, args, below, meth, c, Q, g, ca, D, sL, X, hE, rfl⟩ := C
  subst hq
  intro Hr locs ls hN hS hl
  exact lv_istore X.exec X.code dg (lH_has hl) h0 rfl (fun ls2 hl2 => kk Hr locs ls2 hN hS (lH_set (v := .int x) h1 hl2))
theorem CoL.astore_n (C : CoL T F own cc nL d kc ks Wk) {z : Fin 4} {i : Nat} {x : Nat} (dg : decode cc pc = .ok (.astore_n z, 1)) (hq : pc + 1 = q) (hi : (z : Nat) = i) (h0 : i < nL) (h1 : oneL L i = true) (kk : Wk k n q (L.set i (some (.ref x))) S H) : Wk k n pc L (.ref x :: S) H := by
  obtain ⟨p, l, e, R, s, m, args, below, meth, c, Q, g, ca, D, sL, X, hE, rfl⟩ := C
  subst hq
  intro Hr locs ls hN hS hl
  exact lv_astore_n X.exec X.code dg hi (lH_has hl) h0 rfl (fun ls2 hl2 => kk Hr locs ls2 hN hS (lH_set (v := .ref x) h1 hl2))
theorem CoL.astore (C : CoL T F own cc nL d kc ks Wk) {i : Nat} {x : Nat} (dg : decode cc pc = .ok (.astore i, 2)) (hq : pc + 2 = q) (h0 : i < nL) (h1 : oneL L i = true) (kk : Wk k n q (L.set i (some (.ref x))) S H) : Wk k n pc L (.ref x :: S) H := by
  obtain ⟨p, l, e, R, s, m, args, below, meth, c, Q, g, ca, D, sL, X, hE, rfl⟩ := C
  subst hq
  intro Hr locs ls hN hS hl
  exact lv_astore X.exec X.code dg (lH_has hl) h0 rfl (fun ls2 hl2 => kk Hr locs ls2 hN hS (lH_set (v := .ref x) h1 hl2))
theorem CoL.if_eq (C : CoL T F own cc nL d kc ks Wk) {x : Int32} {off : Int} {tgt : Nat} (dg : decode cc pc = .ok (.ifCond .eq off, 3)) (hq : pc + 3 = q) (ht : (pc : Int) + off = (tgt : Int)) (kt : x = 0 → Wk k n tgt L S H) (kf : ¬ x = 0 → Wk k n q L S H) : Wk k n pc L (.int x :: S) H := by
  obtain ⟨p, l, e, R, s, m, args, below, meth, c, Q, g, ca, D, sL, X, hE, rfl⟩ := C
  subst hq
  intro Hr locs ls hN hS hl
  exact lv_if_eq X.exec X.code dg ht (fun z => kt z Hr locs ls hN hS hl) (fun z => kf z Hr locs ls hN hS hl)
theorem CoL.icmp_eq (C : CoL T F own cc nL d kc ks Wk) {x y : Int32} {off : Int} {tgt : Nat} (dg : decode cc pc = .ok (.if_icmp .eq off, 3)) (hq : pc + 3 = q) (ht : (pc : Int) + off = (tgt : Int)) (kt : x = y → Wk k n tgt L S H) (kf : ¬ x = y → Wk k n q L S H) : Wk k n pc L (.int y :: .int x :: S) H := by
  obtain ⟨p, l, e, R, s, m, args, below, meth, c, Q, g, ca, D, sL, X, hE, rfl⟩ := C
  subst hq
  intro Hr locs ls hN hS hl
  exact lv_icmp_eq X.exec X.code dg ht (fun z => kt z Hr locs ls hN hS hl) (fun z => kf z Hr locs ls hN hS hl)
theorem CoL.if_ne (C : CoL T F own cc nL d kc ks Wk) {x : Int32} {off : Int} {tgt : Nat} (dg : decode cc pc = .ok (.ifCond .ne off, 3)) (hq : pc + 3 = q) (ht : (pc : Int) + off = (tgt : Int)) (kt : ¬ x = 0 → Wk k n tgt L S H) (kf : x = 0 → Wk k n q L S H) : Wk k n pc L (.int x :: S) H := by
  obtain ⟨p, l, e, R, s, m, args, below, meth, c, Q, g, ca, D, sL, X, hE, rfl⟩ := C
  subst hq
  intro Hr locs ls hN hS hl
  exact lv_if_ne X.exec X.code dg ht (fun z => kt z Hr locs ls hN hS hl) (fun z => kf z Hr locs ls hN hS hl)
theorem CoL.icmp_ne (C : CoL T F own cc nL d kc ks Wk) {x y : Int32} {off : Int} {tgt : Nat} (dg : decode cc pc = .ok (.if_icmp .ne off, 3)) (hq : pc + 3 = q) (ht : (pc : Int) + off = (tgt : Int)) (kt : ¬ x = y → Wk k n tgt L S H) (kf : x = y → Wk k n q L S H) : Wk k n pc L (.int y :: .int x :: S) H := by
  obtain ⟨p, l, e, R, s, m, args, below, meth, c, Q, g, ca, D, sL, X, hE, rfl⟩ := C
  subst hq
  intro Hr locs ls hN hS hl
  exact lv_icmp_ne X.exec X.code dg ht (fun z => kt z Hr locs ls hN hS hl) (fun z => kf z Hr locs ls hN hS hl)
theorem CoL.if_lt (C : CoL T F own cc nL d kc ks Wk) {x : Int32} {off : Int} {tgt : Nat} (dg : decode cc pc = .ok (.ifCond .lt off, 3)) (hq : pc + 3 = q) (ht : (pc : Int) + off = (tgt : Int)) (kt : x < 0 → Wk k n tgt L S H) (kf : ¬ x < 0 → Wk k n q L S H) : Wk k n pc L (.int x :: S) H := by
  obtain ⟨p, l, e, R, s, m, args, below, meth, c, Q, g, ca, D, sL, X, hE, rfl⟩ := C
  subst hq
  intro Hr locs ls hN hS hl
  exact lv_if_lt X.exec X.code dg ht (fun z => kt z Hr locs ls hN hS hl) (fun z => kf z Hr locs ls hN hS hl)
theorem CoL.icmp_lt (C : CoL T F own cc nL d kc ks Wk) {x y : Int32} {off : Int} {tgt : Nat} (dg : decode cc pc = .ok (.if_icmp .lt off, 3)) (hq : pc + 3 = q) (ht : (pc : Int) + off = (tgt : Int)) (kt : x < y → Wk k n tgt L S H) (kf : ¬ x < y → Wk k n q L S H) : Wk k n pc L (.int y :: .int x :: S) H := by
  obtain ⟨p, l, e, R, s, m, args, below, meth, c, Q, g, ca, D, sL, X, hE, rfl⟩ := C
  subst hq
  intro Hr locs ls hN hS hl
  exact lv_icmp_lt X.exec X.code dg ht (fun z => kt z Hr locs ls hN hS hl) (fun z => kf z Hr locs ls hN hS hl)
theorem CoL.if_ge (C : CoL T F own cc nL d kc ks Wk) {x : Int32} {off : Int} {tgt : Nat} (dg : decode cc pc = .ok (.ifCond .ge off, 3)) (hq : pc + 3 = q) (ht : (pc : Int) + off = (tgt : Int)) (kt : 0 ≤ x → Wk k n tgt L S H) (kf : ¬ 0 ≤ x → Wk k n q L S H) : Wk k n pc L (.int x :: S) H := by
  obtain ⟨p, l, e, R, s, m, args, below, meth, c, Q, g, ca, D, sL, X, hE, rfl⟩ := C
  subst hq
  intro Hr locs ls hN hS hl
  exact lv_if_ge X.exec X.code dg ht (fun z => kt z Hr locs ls hN hS hl) (fun z => kf z Hr locs ls hN hS hl)
theorem CoL.icmp_ge (C : CoL T F own cc nL d kc ks Wk) {x y : Int32} {off : Int} {tgt : Nat} (dg : decode cc pc = .ok (.if_icmp .ge off, 3)) (hq : pc + 3 = q) (ht : (pc : Int) + off = (tgt : Int)) (kt : y ≤ x → Wk k n tgt L S H) (kf : ¬ y ≤ x → Wk k n q L S H) : Wk k n pc L (.int y :: .int x :: S) H := by
  obtain ⟨p, l, e, R, s, m, args, below, meth, c, Q, g, ca, D, sL, X, hE, rfl⟩ := C
  subst hq
  intro Hr locs ls hN hS hl
  exact lv_icmp_ge X.exec X.code dg ht (fun z => kt z Hr locs ls hN hS hl) (fun z => kf z Hr locs ls hN hS hl)
theorem CoL.if_gt (C : CoL T F own cc nL d kc ks Wk) {x : Int32} {off : Int} {tgt : Nat} (dg : decode cc pc = .ok (.ifCond .gt off, 3)) (hq : pc + 3 = q) (ht : (pc : Int) + off = (tgt : Int)) (kt : 0 < x → Wk k n tgt L S H) (kf : ¬ 0 < x → Wk k n q L S H) : Wk k n pc L (.int x :: S) H := by
  obtain ⟨p, l, e, R, s, m, args, below, meth, c, Q, g, ca, D, sL, X, hE, rfl⟩ := C
  subst hq
  intro Hr locs ls hN hS hl
  exact lv_if_gt X.exec X.code dg ht (fun z => kt z Hr locs ls hN hS hl) (fun z => kf z Hr locs ls hN hS hl)
theorem CoL.icmp_gt (C : CoL T F own cc nL d kc ks Wk) {x y : Int32} {off : Int} {tgt : Nat} (dg : decode cc pc = .ok (.if_icmp .gt off, 3)) (hq : pc + 3 = q) (ht : (pc : Int) + off = (tgt : Int)) (kt : y < x → Wk k n tgt L S H) (kf : ¬ y < x → Wk k n q L S H) : Wk k n pc L (.int y :: .int x :: S) H := by
  obtain ⟨p, l, e, R, s, m, args, below, meth, c, Q, g, ca, D, sL, X, hE, rfl⟩ := C
  subst hq
  intro Hr locs ls hN hS hl
  exact lv_icmp_gt X.exec X.code dg ht (fun z => kt z Hr locs ls hN hS hl) (fun z => kf z Hr locs ls hN hS hl)
theorem CoL.if_le (C : CoL T F own cc nL d kc ks Wk) {x : Int32} {off : Int} {tgt : Nat} (dg : decode cc pc = .ok (.ifCond .le off, 3)) (hq : pc + 3 = q) (ht : (pc : Int) + off = (tgt : Int)) (kt : x ≤ 0 → Wk k n tgt L S H) (kf : ¬ x ≤ 0 → Wk k n q L S H) : Wk k n pc L (.int x :: S) H := by
  obtain ⟨p, l, e, R, s, m, args, below, meth, c, Q, g, ca, D, sL, X, hE, rfl⟩ := C
  subst hq
  intro Hr locs ls hN hS hl
  exact lv_if_le X.exec X.code dg ht (fun z => kt z Hr locs ls hN hS hl) (fun z => kf z Hr locs ls hN hS hl)
theorem CoL.icmp_le (C : CoL T F own cc nL d kc ks Wk) {x y : Int32} {off : Int} {tgt : Nat} (dg : decode cc pc = .ok (.if_icmp .le off, 3)) (hq : pc + 3 = q) (ht : (pc : Int) + off = (tgt : Int)) (kt : x ≤ y → Wk k n tgt L S H) (kf : ¬ x ≤ y → Wk k n q L S H) : Wk k n pc L (.int y :: .int x :: S) H := by
  obtain ⟨p, l, e, R, s, m, args, below, meth, c, Q, g, ca, D, sL, X, hE, rfl⟩ := C
  subst hq
  intro Hr locs ls hN hS hl
  exact lv_icmp_le X.exec X.code dg ht (fun z => kt z Hr locs ls hN hS hl) (fun z => kf z Hr locs ls hN hS hl)
theorem CoL.goto (C : CoL T F own cc nL d kc ks Wk) {off : Int} {tgt : Nat} (dg : decode cc pc = .ok (.goto off, 3)) (ht : (pc : Int) + off = (tgt : Int)) (kk : Wk k n tgt L S H) : Wk k n pc L S H := by
  obtain ⟨p, l, e, R, s, m, args, below, meth, c, Q, g, ca, D, sL, X, hE, rfl⟩ := C
  intro Hr locs ls hN hS hl
  exact lv_goto X.exec X.code dg ht (kk Hr locs ls hN hS hl)
theorem CoL.ishr (C : CoL T F own cc nL d kc ks Wk) {x y : Int32} (dg : decode cc pc = .ok (.ishr, 1)) (hq : pc + 1 = q) (kk : Wk k n q L (.int (x >>> (y &&& 31)) :: S) H) : Wk k n pc L (.int y :: .int x :: S) H := by
  obtain ⟨p, l, e, R, s, m, args, below, meth, c, Q, g, ca, D, sL, X, hE, rfl⟩ := C
  subst hq
  intro Hr locs ls hN hS hl
  exact lv_ishr X.exec X.code dg (kk Hr locs ls hN hS hl)
end
