/-! ===== THE LAYER, 1: an abstract heap (cells by abstract index), an abstract walk ===== -/
abbrev mC : Type := (Nat × vp_A) ⊕ (Nat × List Value)
abbrev aH : Type := Bool × Nat × (Nat → mC)
/-- an abstract reference's address: our own cells from g.1 on; from 1000 on: the script -/
def ra (g : Nat × Nat) (i : Nat) : Nat := if i < 1000 then g.1 + i else i - 1000
def rv (g : Nat × Nat) (v : Value) : Value := match v with
  | .ref i => .ref (ra g i)
  | v => v
def rx (g : Nat × Nat) (x : vp_A) : vp_A := match x with
  | (n, .inr (.inr (.inr (.inr f)))) => (n, .inr (.inr (.inr (.inr (fun k => (f k).map (ra g))))))
  | x => x
def re (g : Nat × Nat) (ca : Nat → ClassId) (c : mC) : va_E := match c with
  | .inl (t, x) => .inl (ca t, rx g x)
  | .inr (ci, fs) => .inr (ci, fs.map (rv g))
def rW (g : Nat × Nat) (ca : Nat → ClassId) (N : Nat) (f : Nat → mC) : va_W := (List.range N).map (fun i => (g.1 + i, re g ca (f i)))
def fu (f : Nat → mC) (i : Nat) (c : mC) : Nat → mC := fun j => if j = i then c else f j
def sH (H : aH) (i : Nat) (c : mC) : aH := (H.1, H.2.1, fu H.2.2 i c)
/-- one cell more, behind the others -/
def pH (H : aH) (c : mC) : aH := (H.1, H.2.1 + 1, fu H.2.2 H.2.1 c)
def aD (g : Nat × Nat) : Nat → Prop := fun q => g.1 ≤ q ∧ (q < g.1 + 131 ∨ g.2 ≤ q)
def hz (g : Nat × Nat) (n : Nat) : Prop := g.1 ≤ n ∧ g.2 ≤ n
def tys (ca : Nat → ClassId) : List (ClassId × FieldType) := [(ca 0, .int), (ca 1, .char), (ca 2, .byte), (ca 3, .byte), (ca 4, .object RX0)]
def tyOf : Nat → FieldType
  | 0 => .int
  | 1 => .char
  | 2 => .byte
  | 3 => .byte
  | _ => .object RX0
theorem rv_cat (g : Nat × Nat) (v : Value) : (rv g v).category = v.category := by cases v <;> rfl
theorem rW_get {g : Nat × Nat} {ca : Nat → ClassId} {N i : Nat} {f : Nat → mC} (h : i < N) : (rW g ca N f)[i]? = some (g.1 + i, re g ca (f i)) := by
  simp [rW, h]
theorem rW_len {g : Nat × Nat} {ca : Nat → ClassId} {N : Nat} {f : Nat → mC} : (rW g ca N f).length = N := by simp [rW]
theorem rW_inv {g : Nat × Nat} {ca : Nat → ClassId} {N i : Nat} {f : Nat → mC} {q : Nat × va_E} (h : (rW g ca N f)[i]? = some q) : i < N ∧ q = (g.1 + i, re g ca (f i)) := by
  have hl : i < N := by
    have := (List.getElem?_eq_some_iff.mp h).1
    rwa [rW_len] at this
  rw [rW_get hl] at h
  exact ⟨hl, (Option.some.inj h).symm⟩
theorem rW_D {g : Nat × Nat} {ca : Nat → ClassId} {N : Nat} {f : Nat → mC} (hN : N ≤ 131) : va_D (aD g) (rW g ca N f) := by
  refine ⟨fun i j p q h1 h2 h => ?_, fun k q h => ?_⟩
  · obtain ⟨-, rfl⟩ := rW_inv h1
    obtain ⟨-, rfl⟩ := rW_inv h2
    have h' : g.1 + i = g.1 + j := h
    omega
  · obtain ⟨hk, rfl⟩ := rW_inv h
    exact ⟨Nat.le_add_right g.1 k, Or.inl (by show g.1 + k < g.1 + 131; omega)⟩
theorem rW_set {g : Nat × Nat} {ca : Nat → ClassId} {N i : Nat} {f : Nat → mC} (h : i < N) (c : mC) : (rW g ca N f).set i (g.1 + i, re g ca c) = rW g ca N (fu f i c) := by
  apply List.ext_getElem?
  intro j
  by_cases hj : j < N
  · rw [rW_get hj]
    by_cases e : j = i
    · subst e
      rw [List.getElem?_set_self (by rw [rW_len]; exact hj)]
      simp [fu]
    · rw [List.getElem?_set_ne (Ne.symm e), rW_get hj]
      simp [fu, e]
  · rw [List.getElem?_eq_none (by rw [List.length_set, rW_len]; omega), List.getElem?_eq_none (by rw [rW_len]; omega)]
theorem rW_push {g : Nat × Nat} {ca : Nat → ClassId} {N : Nat} {f : Nat → mC} (c : mC) : rW g ca N f ++ [(g.1 + N, re g ca c)] = rW g ca (N + 1) (fu f N c) := by
  apply List.ext_getElem?
  intro j
  by_cases hj : j < N
  · rw [List.getElem?_append_left (by rw [rW_len]; exact hj), rW_get hj, rW_get (by omega)]
    have e : ¬ j = N := by omega
    simp [fu, e]
  · rw [List.getElem?_append_right (by rw [rW_len]; omega), rW_len]
    by_cases e : j = N
    · subst e
      rw [Nat.sub_self, rW_get (by omega)]
      simp [fu]
    · rw [List.getElem?_eq_none (by simp; omega), List.getElem?_eq_none (by rw [rW_len]; omega)]
theorem fu_self {f : Nat → mC} {i : Nat} {c : mC} : fu f i c i = c := by simp [fu]
theorem fu_ne {f : Nat → mC} {i j : Nat} {c : mC} (h : ¬ j = i) : fu f i c j = f j := by simp [fu, h]
theorem ra_lt {g : Nat × Nat} {i : Nat} (h : i < 131) : ra g i = g.1 + i := by simp [ra, show i < 1000 by omega]
theorem ra_out {g : Nat × Nat} {a : Nat} : ra g (a + 1000) = a := by
  unfold ra
  rw [if_neg (by omega)]
  omega
/-- the locals -/
def lH (g : Nat × Nat) (ls : Array Slot) (nL : Nat) (L : List (Option Value)) : Prop := ls.size = nL ∧ lv_wf ls ∧ ∀ (i : Nat) (v : Value), L[i]? = some (some v) → ls[i]? = some (.val (rv g v))
def lP (g : Nat × Nat) : Nat → List (Option Value) → List (Nat × Value)
  | _, [] => []
  | i, none :: L => lP g (i + 1) L
  | i, some v :: L => (i, rv g v) :: lP g (i + 1) L
theorem lP_mem (g : Nat × Nat) : ∀ (L : List (Option Value)) (i : Nat) (q : Nat × Value), q ∈ lP g i L ↔ ∃ (k : Nat) (v : Value), L[k]? = some (some v) ∧ q = (i + k, rv g v)
  | [], i, q => by simp [lP]
  | none :: L, i, q => by
    rw [show lP g i (none :: L) = lP g (i + 1) L from rfl, lP_mem g L (i + 1) q]
    constructor
    · rintro ⟨k, v, h, rfl⟩
      exact ⟨k + 1, v, h, by rw [Nat.add_assoc, Nat.add_comm 1 k]⟩
    · rintro ⟨k, v, h, rfl⟩
      cases k with
      | zero => simp at h
      | succ k => exact ⟨k, v, h, by rw [Nat.add_assoc, Nat.add_comm 1 k]⟩
  | some w :: L, i, q => by
    rw [show lP g i (some w :: L) = (i, rv g w) :: lP g (i + 1) L from rfl, List.mem_cons, lP_mem g L (i + 1) q]
    constructor
    · rintro (rfl | ⟨k, v, h, rfl⟩)
      · exact ⟨0, w, rfl, rfl⟩
      · exact ⟨k + 1, v, h, by rw [Nat.add_assoc, Nat.add_comm 1 k]⟩
    · rintro ⟨k, v, h, rfl⟩
      cases k with
      | zero =>
        have : w = v := by simpa using h
        subst this
        exact Or.inl rfl
      | succ k => exact Or.inr ⟨k, v, h, by rw [Nat.add_assoc, Nat.add_comm 1 k]⟩
theorem lH_has {g : Nat × Nat} {ls : Array Slot} {nL : Nat} {L : List (Option Value)} (h : lH g ls nL L) : lv_has ls nL (lP g 0 L) := by
  refine ⟨h.1, h.2.1, fun q hq => ?_⟩
  obtain ⟨k, v, hk, rfl⟩ := (lP_mem g L 0 q).mp hq
  rw [Nat.zero_add]
  exact h.2.2 k v hk
/-- ahead of place i stands no first half -/
def oneL (L : List (Option Value)) (i : Nat) : Bool := match i with
  | 0 => true
  | j + 1 => match L[j]? with
    | some (some w) => w.category == 1
    | _ => true
theorem oneL_spec {L : List (Option Value)} {i k : Nat} {w : Value} (h : oneL L i = true) (hk : k + 1 = i) (hw : L[k]? = some (some w)) : ¬ w.category = 2 := by
  subst hk
  simp only [oneL, hw, beq_iff_eq] at h
  omega
theorem lH_set {g : Nat × Nat} {ls' : Array Slot} {nL i : Nat} {L : List (Option Value)} {v : Value} (h1 : oneL L i = true)
    (h : lv_has ls' nL ((i, rv g v) :: (lP g 0 L).filter (fun q => !(q.1 == i) && !(q.1 + 1 == i && q.2.category == 2)))) : lH g ls' nL (L.set i (some v)) := by
  refine ⟨h.1, h.2.1, fun k w hk => ?_⟩
  by_cases e : k = i
  · subst e
    have hl : k < (L.set k (some v)).length := (List.getElem?_eq_some_iff.mp hk).1
    rw [List.length_set] at hl
    rw [List.getElem?_set_self hl] at hk
    obtain rfl := Option.some.inj (Option.some.inj hk)
    exact h.2.2 (k, rv g v) List.mem_cons_self
  · rw [List.getElem?_set_ne (Ne.symm e)] at hk
    refine h.2.2 (k, rv g w) (List.mem_cons_of_mem _ (List.mem_filter.mpr ⟨(lP_mem g L 0 _).mpr ⟨k, w, hk, by rw [Nat.zero_add]⟩, ?_⟩))
    simp only [Bool.and_eq_true, Bool.not_eq_true', beq_eq_false_iff_ne, ne_eq, Bool.and_eq_false_iff]
    refine ⟨e, ?_⟩
    by_cases e2 : k + 1 = i
    · exact Or.inr (by rw [rv_cat]; exact oneL_spec h1 e2 hk)
    · exact Or.inl e2
theorem lH_set2 {g : Nat × Nat} {ls' : Array Slot} {nL i : Nat} {L : List (Option Value)} {v : Value} (h1 : oneL L i = true)
    (h : lv_has ls' nL ((i, rv g v) :: (lP g 0 L).filter (fun q => !(q.1 == i) && (!(q.1 == i + 1) && !(q.1 + 1 == i && q.2.category == 2))))) : lH g ls' nL ((L.set i (some v)).set (i + 1) none) := by
  refine ⟨h.1, h.2.1, fun k w hk => ?_⟩
  have e1 : ¬ k = i + 1 := by
    intro e
    subst e
    have hl : i + 1 < ((L.set i (some v)).set (i + 1) none).length := (List.getElem?_eq_some_iff.mp hk).1
    rw [List.length_set] at hl
    rw [List.getElem?_set_self hl] at hk
    simp at hk
  rw [List.getElem?_set_ne (fun z => e1 z.symm)] at hk
  by_cases e : k = i
  · subst e
    have hl : k < (L.set k (some v)).length := (List.getElem?_eq_some_iff.mp hk).1
    rw [List.length_set] at hl
    rw [List.getElem?_set_self hl] at hk
    obtain rfl := Option.some.inj (Option.some.inj hk)
    exact h.2.2 (k, rv g v) List.mem_cons_self
  · rw [List.getElem?_set_ne (Ne.symm e)] at hk
    refine h.2.2 (k, rv g w) (List.mem_cons_of_mem _ (List.mem_filter.mpr ⟨(lP_mem g L 0 _).mpr ⟨k, w, hk, by rw [Nat.zero_add]⟩, ?_⟩))
    simp only [Bool.and_eq_true, Bool.not_eq_true', beq_eq_false_iff_ne, ne_eq, Bool.and_eq_false_iff]
    refine ⟨e, e1, ?_⟩
    by_cases e2 : k + 1 = i
    · exact Or.inr (by rw [rv_cat]; exact oneL_spec h1 e2 hk)
    · exact Or.inl e2
theorem lH_drop {g : Nat × Nat} {ls : Array Slot} {nL i : Nat} {L : List (Option Value)} {v : Value} (h : lH g ls nL (L.set i (some v))) : lH g ls nL (L.set i none) := by
  refine ⟨h.1, h.2.1, fun k w hk => ?_⟩
  by_cases e : k = i
  · subst e
    have hl : k < (L.set k none).length := (List.getElem?_eq_some_iff.mp hk).1
    rw [List.length_set] at hl
    rw [List.getElem?_set_self hl] at hk
    simp at hk
  · rw [List.getElem?_set_ne (Ne.symm e)] at hk
    exact h.2.2 k w (by rw [List.getElem?_set_ne (Ne.symm e)]; exact hk)
/-! the fixed things of the whole run -/
def strs : List (Nat × String) := [(133, "no such loan"), (376, "no such name, amount or way"), (378, "refused"), (115, "nobody waits at this place"), (149, "no such number of a loan"), (155, "no such name"), (174, "no such number of one who waits"), (179, "no such unit"), (193, "no such number of a piece"), (216, "nothing is free"), (380, "no such amount"), (385, "no free piece is large enough"), (254, "no such index"), (265, "the input is full"), (279, "the text has an error"), (304, "an order is refused"), (307, "an order cannot be carried out"), (309, "nothing was refused"), (331, "no such account"), (347, "there are no loans"), (351, "no change can be undone"), (356, "there is no snapshot")]
/-- pairs of exception classes of which the first is not a second -/
def ncs : List (String × String) := [("java/lang/UnsupportedOperationException", "java/lang/IllegalArgumentException"), ("java/lang/IllegalArgumentException", "java/lang/UnsupportedOperationException"), ("java/lang/IndexOutOfBoundsException", "java/lang/UnsupportedOperationException"), ("java/lang/IndexOutOfBoundsException", "java/lang/IllegalArgumentException")]
def Gl (l : Launch) (sL : State) (g : Nat × Nat) (D : va_G) (ca : Nat → ClassId) : Prop :=
  l.stackTraces = false ∧ (∃ a0 : Array Value, ∀ w ∈ lw_tbl, w.before a0 sL = true) ∧ sL.heap.size ≤ g.1 ∧ va_K D vwCl (tys ca) sL ∧
  vx_Zq Bundle.tN "UNASSIGNED_STACK" Bundle.steD (aD g) sL sL.heap ∧ vx_Zq Bundle.tN "SUPPRESSED_SENTINEL" Bundle.listD (aD g) sL sL.heap ∧
  (∀ q ∈ strs, ∃ a : Nat, vk_R RX7 q.1 q.2 a sL) ∧ ∀ q ∈ ncs, va_Nc q.1 q.2 sL
def wld (g : Nat × Nat) (ca : Nat → ClassId) (D : va_G) (H : aH) (Hr : Heap) : Prop := H.2.1 ≤ 131 ∧ va_P D vwCl (rW g ca H.2.1 H.2.2) Hr ∧ (H.1 = true → Hr.size = g.1 + H.2.1)
def Cx (p : Program) (l : Launch) (R : Room) (s : State) (m : MethodId) (meth : Method) (c : Code) (g : Nat × Nat) (ca : Nat → ClassId) (D : va_G) (sL : State) (own : String) (cc : ByteArray) (nL d kc ks : Nat) : Prop :=
  Gl l sL g D ca ∧ sL.WarmedH s.vm ∧ hz g s.heap.size ∧ (∀ q : Nat, q < sL.heap.size → s.heap[q]? = sL.heap[q]?) ∧ p.tables.exec = Jvm.exec ∧ c.code = cc ∧ c.maxLocals = nL ∧ s.vm.findClass own = some m.cls ∧ meth.locks = false ∧ d ≤ R.frames ∧ 64 * d ≤ R.locals ∧ kc ≤ R.cells ∧ ks ≤ R.slots
abbrev tW : Type := Nat → Nat → Nat → List (Option Value) → List Value → aH → Prop
def vW (p : Program) (l : Launch) (e : Env) (R : Room) (s : State) (m : MethodId) (args : Array Value) (below : List Frame) (meth : Method) (c : Code) (Q : State → Prop) (g : Nat × Nat) (ca : Nat → ClassId) (D : va_G) (nL : Nat) : tW := fun k n pc L S H =>
  ∀ (Hr : Heap) (locs : List Loc) (ls : Array Slot), wld g ca D H Hr → va_S (aD g) s.heap Hr locs → lH g ls nL L → W p l e R s m args below meth c Hr locs k n Q (F0 m pc ls (S.map (rv g)))
/-- the body of a method of class own with code cc: Wk is what its walk shows -/
def Core (own : String) (cc : ByteArray) (nL d kc ks : Nat) (Wk : tW) : Prop :=
  ∃ (p : Program) (l : Launch) (e : Env) (R : Room) (s : State) (m : MethodId) (args : Array Value) (below : List Frame) (meth : Method) (c : Code) (Q : State → Prop) (g : Nat × Nat) (ca : Nat → ClassId) (D : va_G) (sL : State),
    Cx p l R s m meth c g ca D sL own cc nL d kc ks ∧ Wk = vW p l e R s m args below meth c Q g ca D nL
section CxL
variable {p : Program} {l : Launch} {R : Room} {s : State} {m : MethodId} {meth : Method} {c : Code} {g : Nat × Nat} {ca : Nat → ClassId} {D : va_G} {sL : State} {own : String} {cc : ByteArray} {nL d kc ks : Nat}
theorem Cx.exec (X : Cx p l R s m meth c g ca D sL own cc nL d kc ks) : p.tables.exec = Jvm.exec := X.2.2.2.2.1
theorem Cx.code (X : Cx p l R s m meth c g ca D sL own cc nL d kc ks) : c.code = cc := X.2.2.2.2.2.1
theorem Cx.max (X : Cx p l R s m meth c g ca D sL own cc nL d kc ks) : c.maxLocals = nL := X.2.2.2.2.2.2.1
theorem Cx.ow (X : Cx p l R s m meth c g ca D sL own cc nL d kc ks) : s.vm.findClass own = some m.cls := X.2.2.2.2.2.2.2.1
theorem Cx.locks (X : Cx p l R s m meth c g ca D sL own cc nL d kc ks) : meth.locks = false := X.2.2.2.2.2.2.2.2.1
theorem Cx.frames (X : Cx p l R s m meth c g ca D sL own cc nL d kc ks) : d ≤ R.frames := X.2.2.2.2.2.2.2.2.2.1
theorem Cx.locals (X : Cx p l R s m meth c g ca D sL own cc nL d kc ks) : 64 * d ≤ R.locals := X.2.2.2.2.2.2.2.2.2.2.1
theorem Cx.cells (X : Cx p l R s m meth c g ca D sL own cc nL d kc ks) : kc ≤ R.cells := X.2.2.2.2.2.2.2.2.2.2.2.1
theorem Cx.slots (X : Cx p l R s m meth c g ca D sL own cc nL d kc ks) : ks ≤ R.slots := X.2.2.2.2.2.2.2.2.2.2.2.2
theorem Cx.gl (X : Cx p l R s m meth c g ca D sL own cc nL d kc ks) : Gl l sL g D ca := X.1
theorem Cx.warm (X : Cx p l R s m meth c g ca D sL own cc nL d kc ks) : sL.WarmedH s.vm := X.2.1
theorem Cx.word (X : Cx p l R s m meth c g ca D sL own cc nL d kc ks) {w : Cond} (h : wok w) (a : Array Value) : w.before a s = true := by
  obtain ⟨-, ⟨a0, h0⟩, -⟩ := X.1
  exact word_at X.2.1 (good_of_word h.2) (h0 w h.1)
theorem Cx.K (X : Cx p l R s m meth c g ca D sL own cc nL d kc ks) : va_K D vwCl (tys ca) s := va_K.moved X.2.1.alike X.1.2.2.2.1
theorem Cx.base (X : Cx p l R s m meth c g ca D sL own cc nL d kc ks) : g.1 ≤ s.heap.size := X.2.2.1.1
theorem Cx.hA (X : Cx p l R s m meth c g ca D sL own cc nL d kc ks) : ∀ q, s.heap.size ≤ q → aD g q := fun q h => ⟨Nat.le_trans X.base h, Or.inr (Nat.le_trans X.2.2.1.2 h)⟩
theorem Cx.low (X : Cx p l R s m meth c g ca D sL own cc nL d kc ks) : ∀ q : Nat, q < sL.heap.size → ¬ aD g q → s.heap[q]? = sL.heap[q]? := fun q h _ => X.2.2.2.1 q h
theorem Cx.zU (X : Cx p l R s m meth c g ca D sL own cc nL d kc ks) : vx_Zq Bundle.tN "UNASSIGNED_STACK" Bundle.steD (aD g) s s.heap := vx_Zq.kept (vx_Zq.moved X.2.1.alike X.1.2.2.2.2.1) X.low
theorem Cx.zN (X : Cx p l R s m meth c g ca D sL own cc nL d kc ks) : vx_Zq Bundle.tN "SUPPRESSED_SENTINEL" Bundle.listD (aD g) s s.heap := vx_Zq.kept (vx_Zq.moved X.2.1.alike X.1.2.2.2.2.2.1) X.low
theorem Cx.str (X : Cx p l R s m meth c g ca D sL own cc nL d kc ks) {q : Nat × String} (h : q ∈ strs) : ∃ a : Nat, vk_R RX7 q.1 q.2 a s := by
  obtain ⟨a, ha⟩ := X.1.2.2.2.2.2.2.1 q h
  exact ⟨a, ha.warm X.2.1⟩
theorem Cx.nc (X : Cx p l R s m meth c g ca D sL own cc nL d kc ks) {E nm : String} (h : (E, nm) ∈ ncs) : va_Nc E nm s := va_Nc.moved X.2.1.alike (X.1.2.2.2.2.2.2.2 (E, nm) h)
end CxL
