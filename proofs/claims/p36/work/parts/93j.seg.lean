/-! ===== p36: the law, 10: floats; a far text ===== -/
section
variable {own : String} {cc : ByteArray} {nL d kc ks : Nat} {Wk : lW} {T : TxT} {F : FxT} {k n pc q : Nat} {L : List (Option Value)} {S : List Value} {H : WL}
theorem CoL.fconst0 (C : CoL T F own cc nL d kc ks Wk) (dg : decode cc pc = .ok (.fconst 0, 1)) (hq : pc + 1 = q) (kk : Wk k n q L (.float FP.fconst0 :: S) H) : Wk k n pc L S H := by
  obtain ⟨p, l, e, R, s, m, args, below, meth, c, Q, g, ca, D, sL, X, hE, rfl⟩ := C
  subst hq
  intro Hr locs ls hN hS hl
  exact lv_fconst0 X.exec X.code dg (kk Hr locs ls hN hS hl)
theorem CoL.fcmp (C : CoL T F own cc nL d kc ks Wk) {x y : UInt32} {op : CmpOp} (dg : decode cc pc = .ok (.fcmp op, 1)) (hq : pc + 1 = q) (kk : Wk k n q L (.int (Op.cmpValue (FP.fcmp x y) op) :: S) H) : Wk k n pc L (.float y :: .float x :: S) H := by
  obtain ⟨p, l, e, R, s, m, args, below, meth, c, Q, g, ca, D, sL, X, hE, rfl⟩ := C
  subst hq
  intro Hr locs ls hN hS hl
  exact lv_fcmp X.exec X.code dg (kk Hr locs ls hN hS hl)
end
