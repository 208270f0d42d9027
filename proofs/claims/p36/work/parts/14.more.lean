/-! ===== small things for the walks ===== -/
theorem Core.drop {own : String} {cc : ByteArray} {nL d kc ks : Nat} {Wk : tW} {k n pc : Nat} {L : List (Option Value)} {S : List Value} {H : aH} (C : Core own cc nL d kc ks Wk) (j : Nat) (kk : Wk k n pc (L.set j none) S H) : Wk k n pc L S H := by
  obtain ⟨p, l, e, R, s, m, args, below, meth, c, Q, g, ca, D, sL, X, rfl⟩ := C
  intro Hr locs ls hN hS hl
  refine kk Hr locs ls hN hS ⟨hl.1, hl.2.1, fun i v hi => hl.2.2 i v ?_⟩
  by_cases e : i = j
  · subst e
    have h : i < (L.set i none).length := (List.getElem?_eq_some_iff.mp hi).1
    rw [List.length_set] at h
    rw [List.getElem?_set_self h] at hi
    simp at hi
  · rwa [List.getElem?_set_ne (Ne.symm e)] at hi
theorem fu_some {α : Type} {o : Option α} {d : α} (h : o ≠ none) : o = some (o.getD d) := by
  cases o with
  | none => exact absurd rfl h
  | some x => rfl
def bd0 : BD := (fun _ => 0, fun _ _ => 0)
def gs0 : GS := (fun _ => bd0, fun _ => 0, fun _ _ => 0, fun _ => 0, fun _ => 0)
theorem Core.loc {own : String} {cc : ByteArray} {nL d kc ks : Nat} {Wk : tW} {k n pc : Nat} {L : List (Option Value)} {S : List Value} {H : aH} (C : Core own cc nL d kc ks Wk) (j : Nat) {x y : Int32} (hx : L[j]? = some (some (.int x))) (h : x = y) (kk : Wk k n pc (L.set j (some (.int y))) S H) : Wk k n pc L S H := by
  obtain ⟨p, l, e, R, s, m, args, below, meth, c, Q, g, ca, D, sL, X, rfl⟩ := C
  subst h
  intro Hr locs ls hN hS hl
  refine kk Hr locs ls hN hS ⟨hl.1, hl.2.1, fun i v hi => ?_⟩
  by_cases e : i = j
  · subst e
    have h : i < (L.set i (some (.int x))).length := (List.getElem?_eq_some_iff.mp hi).1
    rw [List.length_set] at h
    rw [List.getElem?_set_self h] at hi
    obtain rfl := Option.some.inj (Option.some.inj hi)
    exact hl.2.2 i _ hx
  · exact hl.2.2 i v (by rwa [List.getElem?_set_ne (Ne.symm e)] at hi)
theorem ne0_of {x : Int32} (h : ¬ x < 1) : ¬ x = 0 := by
  intro e
  subst e
  exact h (by decide)
def bigF : Nat := 4294967296
/-- an answer, or the exception's class -/
def rT (e : String) (v : Option Value) : rR := if e = "" then .inl v else .inr e
theorem ct_ok {d mc ms : Nat} {y : MethodName} {w : Cond} {av : List Value} {H H' : aH} {e : String} {v : Option Value} (h : Ct d mc ms y w av H (rT e v) H') (he : e = "") : Ct d mc ms y w av H (.inl v) H' := by
  rw [rT, if_pos he] at h
  exact h
theorem ct_ex {d mc ms : Nat} {y : MethodName} {w : Cond} {av : List Value} {H H' : aH} {e : String} {v : Option Value} (h : Ct d mc ms y w av H (rT e v) H') (he : ¬ e = "") : Ct d mc ms y w av H (.inr e) H' := by
  rw [rT, if_neg he] at h
  exact h
theorem OkM.cast {own : String} {cc : ByteArray} {nL d kc ks : Nat} {ret : Option FieldType} {tab : List (Nat × Nat × Nat × Nat)} {ini : Bool} {r r2 : rR} {H' H2 : aH} {Wk : tW} (C : OkM own cc nL d kc ks ret tab ini r H' Wk) (h1 : r = r2) (h2 : H' = H2) : OkM own cc nL d kc ks ret tab ini r2 H2 Wk := by
  subst h1; subst h2; exact C
