/-! ===== p36: the law, 10: floats; a far text ===== -/
section
variable {own : String} {cc : ByteArray} {nL d kc ks : Nat} {Wk : lW} {T : TxT} {F : FxT} {k n pc q : Nat} {L : List (Option Value)} {S : List Value} {H : WL}
theorem CoL.fconst0 (C : CoL T F own cc nL d kc ks Wk) (dg : decode cc pc = .ok (.fconst 0, 1)) (hq : pc + 1 = q) (kk : Wk k n q L (.float FP.fconst0 :: S) H) : Wk k n pc L S H := by
  obtain ⟨p, l, e, R, s, m, args, below, meth, c, Q, g, ca, D, sL, X, hE, rfl⟩ := C
  subst hq
  intro Hr locs ls hN hS hl
  exact lv_fconst0 X.exec X.code dg (kk Hr locs ls hN hS hl)
theorem CoL.fcmp (C : CoL T F own cc nL d kc ks Wk) {x y : UInt32} {op : CmpOp} (dg : decode cc pc = .ok (.fcmp op, 1)) (hq : pc + 1 = q) (kk : Wk k n q L (.int (Op.cmpValue (FP.fcmp x y) op) :: S) H) : Wk k n pc L (.float y :: .float x :: S) H := by
  obtain ⟨p, l, e, R, s, m, args, below, meth, c, Q, g, ca, D, sL, X, hE, rfl⟩ := C
  subst hq
  intro Hr locs ls hN hS hl
  exact lv_fcmp X.exec X.code dg (kk Hr locs ls hN hS hl)
end
section
variable {p : Program} {l : Launch} {e : Env} {R : Room} {s : State} {m : MethodId} {args : Array Value} {below : List Frame} {meth : Method} {c : Code} {Hr : Heap} {locs : List Loc} {cells slots : Nat} {Q : State → Prop}
variable {cc : ByteArray} {pc : Nat} {ls : Array Slot} {rest : List Value}
/-- a text whose number takes two bytes -/
theorem far_ldc (hexec : p.tables.exec = Jvm.exec) (hb : c.code = cc) {own tx : String} {idx a : Nat} (hown : s.vm.findClass own = some m.cls) (hZ : vk_R own idx tx a s) (hdg : decode cc pc = .ok (.ldc_w idx, 3))
    (k : W p l e R s m args below meth c Hr locs cells slots Q (F0 m (pc + 3) ls (.ref a :: rest))) : W p l e R s m args below meth c Hr locs cells slots Q (F0 m pc ls rest) := by
  intro T hT X
  obtain ⟨t, a1, b1⟩ := k T hT X
  exact ⟨t, X.ldcStringW hexec hown (text := tx) (a := a) hZ.1 hZ.2 (g := F0 m pc ls rest) rfl (by rw [hb]; exact hdg) t a1, b1⟩
end
theorem CoL.ldcw {own : String} {cc : ByteArray} {nL d kc ks : Nat} {Wk : lW} {T : TxT} {F : FxT} {k n pc q idx : Nat} {L : List (Option Value)} {S : List Value} {ws : WL} (C : CoL T F own cc nL d kc ks Wk) {tx : String} (hq0 : (idx, tx) ∈ lwS) (dg : decode cc pc = .ok (.ldc_w idx, 3)) (hq : pc + 3 = q) (kk : ∀ sa sd : Nat, CoL ((sa, sd, cds tx) :: T) F own cc nL d kc ks Wk → Wk k n q L (.ref (sa + 1000) :: S) ws) : Wk k n pc L S ws := by
  obtain ⟨p, l, e, R, s, m, args, below, meth, c, Q, g, ca, D, sL, X, hE, rfl⟩ := C
  subst hq
  intro Hr locs ls hN hS hl
  obtain ⟨sa, sd, h1, h2⟩ := hE.2.2.2.1 _ hq0
  have h := kk sa sd ⟨p, l, e, R, s, m, args, below, meth, c, Q, g, ca, D, sL, X, ⟨hE.1, hE.2.1, hE.2.2.1, hE.2.2.2.1, fun x hx => by
    rcases List.mem_cons.mp hx with rfl | hx
    · exact h2
    · exact hE.2.2.2.2 x hx⟩, rfl⟩ Hr locs ls hN hS hl
  rw [List.map_cons, rv_out] at h
  exact far_ldc X.exec X.code X.ow h1 dg h
