section
variable {own : String} {cc : ByteArray} {nL d kc ks : Nat} {Wk : tW} {k n pc q : Nat} {L : List (Option Value)} {S : List Value} {H : aH}
theorem Core.iadd (C : Core own cc nL d kc ks Wk) {x y : Int32} (dg : decode cc pc = .ok (.iadd, 1)) (hq : pc + 1 = q) (kk : Wk k n q L (.int (x + y) :: S) H) : Wk k n pc L (.int y :: .int x :: S) H := by
  obtain ⟨p, l, e, R, s, m, args, below, meth, c, Q, g, ca, D, sL, X, rfl⟩ := C
  subst hq
  intro Hr locs ls hN hS hl
  exact lv_iadd X.exec X.code dg (kk Hr locs ls hN hS hl)
theorem Core.isub (C : Core own cc nL d kc ks Wk) {x y : Int32} (dg : decode cc pc = .ok (.isub, 1)) (hq : pc + 1 = q) (kk : Wk k n q L (.int (x - y) :: S) H) : Wk k n pc L (.int y :: .int x :: S) H := by
  obtain ⟨p, l, e, R, s, m, args, below, meth, c, Q, g, ca, D, sL, X, rfl⟩ := C
  subst hq
  intro Hr locs ls hN hS hl
  exact lv_isub X.exec X.code dg (kk Hr locs ls hN hS hl)
theorem Core.imul (C : Core own cc nL d kc ks Wk) {x y : Int32} (dg : decode cc pc = .ok (.imul, 1)) (hq : pc + 1 = q) (kk : Wk k n q L (.int (x * y) :: S) H) : Wk k n pc L (.int y :: .int x :: S) H := by
  obtain ⟨p, l, e, R, s, m, args, below, meth, c, Q, g, ca, D, sL, X, rfl⟩ := C
  subst hq
  intro Hr locs ls hN hS hl
  exact lv_imul X.exec X.code dg (kk Hr locs ls hN hS hl)
theorem Core.iand (C : Core own cc nL d kc ks Wk) {x y : Int32} (dg : decode cc pc = .ok (.iand, 1)) (hq : pc + 1 = q) (kk : Wk k n q L (.int (x &&& y) :: S) H) : Wk k n pc L (.int y :: .int x :: S) H := by
  obtain ⟨p, l, e, R, s, m, args, below, meth, c, Q, g, ca, D, sL, X, rfl⟩ := C
  subst hq
  intro Hr locs ls hN hS hl
  exact lv_iand X.exec X.code dg (kk Hr locs ls hN hS hl)
theorem Core.ixor (C : Core own cc nL d kc ks Wk) {x y : Int32} (dg : decode cc pc = .ok (.ixor, 1)) (hq : pc + 1 = q) (kk : Wk k n q L (.int (x ^^^ y) :: S) H) : Wk k n pc L (.int y :: .int x :: S) H := by
  obtain ⟨p, l, e, R, s, m, args, below, meth, c, Q, g, ca, D, sL, X, rfl⟩ := C
  subst hq
  intro Hr locs ls hN hS hl
  exact lv_ixor X.exec X.code dg (kk Hr locs ls hN hS hl)
theorem Core.idiv (C : Core own cc nL d kc ks Wk) {x y : Int32} (dg : decode cc pc = .ok (.idiv, 1)) (hq : pc + 1 = q) (hne : ¬ y = 0) (kk : Wk k n q L (.int (x / y) :: S) H) : Wk k n pc L (.int y :: .int x :: S) H := by
  obtain ⟨p, l, e, R, s, m, args, below, meth, c, Q, g, ca, D, sL, X, rfl⟩ := C
  subst hq
  intro Hr locs ls hN hS hl
  exact lv_idiv X.exec X.code dg hne (kk Hr locs ls hN hS hl)
theorem Core.irem (C : Core own cc nL d kc ks Wk) {x y : Int32} (dg : decode cc pc = .ok (.irem, 1)) (hq : pc + 1 = q) (hne : ¬ y = 0) (kk : Wk k n q L (.int (x - x / y * y) :: S) H) : Wk k n pc L (.int y :: .int x :: S) H := by
  obtain ⟨p, l, e, R, s, m, args, below, meth, c, Q, g, ca, D, sL, X, rfl⟩ := C
  subst hq
  intro Hr locs ls hN hS hl
  exact lv_irem X.exec X.code dg hne (kk Hr locs ls hN hS hl)
theorem Core.ineg (C : Core own cc nL d kc ks Wk) {x : Int32} (dg : decode cc pc = .ok (.ineg, 1)) (hq : pc + 1 = q) (kk : Wk k n q L (.int (-x) :: S) H) : Wk k n pc L (.int x :: S) H := by
  obtain ⟨p, l, e, R, s, m, args, below, meth, c, Q, g, ca, D, sL, X, rfl⟩ := C
  subst hq
  intro Hr locs ls hN hS hl
  exact lv_ineg X.exec X.code dg (kk Hr locs ls hN hS hl)
theorem Core.iconst (C : Core own cc nL d kc ks Wk) {z : Int} {v : Int32} (dg : decode cc pc = .ok (.iconst z, 1)) (hq : pc + 1 = q) (hv : Int32.ofInt z = v) (kk : Wk k n q L (.int v :: S) H) : Wk k n pc L (S) H := by
  obtain ⟨p, l, e, R, s, m, args, below, meth, c, Q, g, ca, D, sL, X, rfl⟩ := C
  subst hq
  intro Hr locs ls hN hS hl
  exact lv_iconst X.exec X.code dg hv (kk Hr locs ls hN hS hl)
theorem Core.bipush (C : Core own cc nL d kc ks Wk) {z : Int} {v : Int32} (dg : decode cc pc = .ok (.bipush z, 2)) (hq : pc + 2 = q) (hv : (Int8.ofInt z).toInt32 = v) (kk : Wk k n q L (.int v :: S) H) : Wk k n pc L (S) H := by
  obtain ⟨p, l, e, R, s, m, args, below, meth, c, Q, g, ca, D, sL, X, rfl⟩ := C
  subst hq
  intro Hr locs ls hN hS hl
  exact lv_bipush X.exec X.code dg hv (kk Hr locs ls hN hS hl)
theorem Core.sipush (C : Core own cc nL d kc ks Wk) {z : Int} {v : Int32} (dg : decode cc pc = .ok (.sipush z, 3)) (hq : pc + 3 = q) (hv : (Int16.ofInt z).toInt32 = v) (kk : Wk k n q L (.int v :: S) H) : Wk k n pc L (S) H := by
  obtain ⟨p, l, e, R, s, m, args, below, meth, c, Q, g, ca, D, sL, X, rfl⟩ := C
  subst hq
  intro Hr locs ls hN hS hl
  exact lv_sipush X.exec X.code dg hv (kk Hr locs ls hN hS hl)
theorem Core.dup (C : Core own cc nL d kc ks Wk) {v : Value} (dg : decode cc pc = .ok (.dup, 1)) (hq : pc + 1 = q) (hv : v.category = 1) (kk : Wk k n q L (v :: v :: S) H) : Wk k n pc L (v :: S) H := by
  obtain ⟨p, l, e, R, s, m, args, below, meth, c, Q, g, ca, D, sL, X, rfl⟩ := C
  subst hq
  intro Hr locs ls hN hS hl
  exact lv_dup X.exec X.code dg ((rv_cat g v).trans hv) (kk Hr locs ls hN hS hl)
theorem Core.pop (C : Core own cc nL d kc ks Wk) {v : Value} (dg : decode cc pc = .ok (.pop, 1)) (hq : pc + 1 = q) (hv : v.category = 1) (kk : Wk k n q L (S) H) : Wk k n pc L (v :: S) H := by
  obtain ⟨p, l, e, R, s, m, args, below, meth, c, Q, g, ca, D, sL, X, rfl⟩ := C
  subst hq
  intro Hr locs ls hN hS hl
  exact lv_pop X.exec X.code dg ((rv_cat g v).trans hv) (kk Hr locs ls hN hS hl)
theorem Core.dup2 (C : Core own cc nL d kc ks Wk) {v w : Value} (dg : decode cc pc = .ok (.dup2, 1)) (hq : pc + 1 = q) (hv : v.category = 1) (hw : w.category = 1) (kk : Wk k n q L (v :: w :: v :: w :: S) H) : Wk k n pc L (v :: w :: S) H := by
  obtain ⟨p, l, e, R, s, m, args, below, meth, c, Q, g, ca, D, sL, X, rfl⟩ := C
  subst hq
  intro Hr locs ls hN hS hl
  exact lv_dup2_11 X.exec X.code dg ((rv_cat g v).trans hv) ((rv_cat g w).trans hw) (kk Hr locs ls hN hS hl)
theorem Core.i2l (C : Core own cc nL d kc ks Wk) {x : Int32} (dg : decode cc pc = .ok (.i2l, 1)) (hq : pc + 1 = q) (kk : Wk k n q L (.long x.toInt64 :: S) H) : Wk k n pc L (.int x :: S) H := by
  obtain ⟨p, l, e, R, s, m, args, below, meth, c, Q, g, ca, D, sL, X, rfl⟩ := C
  subst hq
  intro Hr locs ls hN hS hl
  exact lv_i2l X.exec X.code dg rfl (kk Hr locs ls hN hS hl)
theorem Core.i2c (C : Core own cc nL d kc ks Wk) {x : Int32} (dg : decode cc pc = .ok (.i2c, 1)) (hq : pc + 1 = q) (kk : Wk k n q L (.int (x.toUInt32 % 65536).toInt32 :: S) H) : Wk k n pc L (.int x :: S) H := by
  obtain ⟨p, l, e, R, s, m, args, below, meth, c, Q, g, ca, D, sL, X, rfl⟩ := C
  subst hq
  intro Hr locs ls hN hS hl
  exact lv_i2c X.exec X.code dg rfl (kk Hr locs ls hN hS hl)
theorem Core.i2d (C : Core own cc nL d kc ks Wk) {x : Int32} (dg : decode cc pc = .ok (.i2d, 1)) (hq : pc + 1 = q) (kk : Wk k n q L (.double (FP.i2d x) :: S) H) : Wk k n pc L (.int x :: S) H := by
  obtain ⟨p, l, e, R, s, m, args, below, meth, c, Q, g, ca, D, sL, X, rfl⟩ := C
  subst hq
  intro Hr locs ls hN hS hl
  exact lv_i2d X.exec X.code dg (kk Hr locs ls hN hS hl)
theorem Core.i2f (C : Core own cc nL d kc ks Wk) {x : Int32} (dg : decode cc pc = .ok (.i2f, 1)) (hq : pc + 1 = q) (kk : Wk k n q L (.float (FP.i2f x) :: S) H) : Wk k n pc L (.int x :: S) H := by
  obtain ⟨p, l, e, R, s, m, args, below, meth, c, Q, g, ca, D, sL, X, rfl⟩ := C
  subst hq
  intro Hr locs ls hN hS hl
  exact lv_i2f X.exec X.code dg (kk Hr locs ls hN hS hl)
theorem Core.dconst0 (C : Core own cc nL d kc ks Wk) (dg : decode cc pc = .ok (.dconst 0, 1)) (hq : pc + 1 = q) (kk : Wk k n q L (.double FP.dconst0 :: S) H) : Wk k n pc L (S) H := by
  obtain ⟨p, l, e, R, s, m, args, below, meth, c, Q, g, ca, D, sL, X, rfl⟩ := C
  subst hq
  intro Hr locs ls hN hS hl
  exact lv_dconst0 X.exec X.code dg (kk Hr locs ls hN hS hl)
theorem Core.ddiv (C : Core own cc nL d kc ks Wk) {x y : UInt64} (dg : decode cc pc = .ok (.ddiv, 1)) (hq : pc + 1 = q) (hne : vf_n64 (FP.ddiv x y)) (kk : Wk k n q L (.double (FP.ddiv x y) :: S) H) : Wk k n pc L (.double y :: .double x :: S) H := by
  obtain ⟨p, l, e, R, s, m, args, below, meth, c, Q, g, ca, D, sL, X, rfl⟩ := C
  subst hq
  intro Hr locs ls hN hS hl
  exact lv_ddiv X.exec X.code dg hne (kk Hr locs ls hN hS hl)
theorem Core.fdiv (C : Core own cc nL d kc ks Wk) {x y : UInt32} (dg : decode cc pc = .ok (.fdiv, 1)) (hq : pc + 1 = q) (hne : vf_n32 (FP.fdiv x y)) (kk : Wk k n q L (.float (FP.fdiv x y) :: S) H) : Wk k n pc L (.float y :: .float x :: S) H := by
  obtain ⟨p, l, e, R, s, m, args, below, meth, c, Q, g, ca, D, sL, X, rfl⟩ := C
  subst hq
  intro Hr locs ls hN hS hl
  exact lv_fdiv X.exec X.code dg hne (kk Hr locs ls hN hS hl)
theorem Core.f2d (C : Core own cc nL d kc ks Wk) {x : UInt32} (dg : decode cc pc = .ok (.f2d, 1)) (hq : pc + 1 = q) (hne : vf_n64 (FP.f2d x)) (kk : Wk k n q L (.double (FP.f2d x) :: S) H) : Wk k n pc L (.float x :: S) H := by
  obtain ⟨p, l, e, R, s, m, args, below, meth, c, Q, g, ca, D, sL, X, rfl⟩ := C
  subst hq
  intro Hr locs ls hN hS hl
  exact lv_f2d X.exec X.code dg hne (kk Hr locs ls hN hS hl)
theorem Core.dcmp (C : Core own cc nL d kc ks Wk) {x y : UInt64} {op : CmpOp} (dg : decode cc pc = .ok (.dcmp op, 1)) (hq : pc + 1 = q) (kk : Wk k n q L (.int (Op.cmpValue (FP.dcmp x y) op) :: S) H) : Wk k n pc L (.double y :: .double x :: S) H := by
  obtain ⟨p, l, e, R, s, m, args, below, meth, c, Q, g, ca, D, sL, X, rfl⟩ := C
  subst hq
  intro Hr locs ls hN hS hl
  exact lv_dcmp X.exec X.code dg (kk Hr locs ls hN hS hl)
theorem Core.null (C : Core own cc nL d kc ks Wk) (dg : decode cc pc = .ok (.aconst_null, 1)) (hq : pc + 1 = q) (kk : Wk k n q L (.null :: S) H) : Wk k n pc L (S) H := by
  obtain ⟨p, l, e, R, s, m, args, below, meth, c, Q, g, ca, D, sL, X, rfl⟩ := C
  subst hq
  intro Hr locs ls hN hS hl
  exact lv_null X.exec X.code dg (kk Hr locs ls hN hS hl)
theorem Core.lcmp (C : Core own cc nL d kc ks Wk) {x y : Int64} (dg : decode cc pc = .ok (.lcmp, 1)) (hq : pc + 1 = q) (kk : Wk k n q L (.int (lg_cmp x y) :: S) H) : Wk k n pc L (.long y :: .long x :: S) H := by
  obtain ⟨p, l, e, R, s, m, args, below, meth, c, Q, g, ca, D, sL, X, rfl⟩ := C
  subst hq
  intro Hr locs ls hN hS hl
  exact W.lcmp X.exec X.code dg (kk Hr locs ls hN hS hl)
theorem Core.iload_n (C : Core own cc nL d kc ks Wk) {z : Fin 4} {x : Int32} (dg : decode cc pc = .ok (.iload_n z, 1)) (hq : pc + 1 = q) (hx : L[(z : Nat)]? = some (some (.int x))) (kk : Wk k n q L (.int x :: S) H) : Wk k n pc L S H := by
  obtain ⟨p, l, e, R, s, m, args, below, meth, c, Q, g, ca, D, sL, X, rfl⟩ := C
  subst hq
  intro Hr locs ls hN hS hl
  exact lv_iload_n X.exec X.code dg rfl (hl.2.2 _ _ hx) (kk Hr locs ls hN hS hl)
theorem Core.iload (C : Core own cc nL d kc ks Wk) {i : Nat} {x : Int32} (dg : decode cc pc = .ok (.iload i, 2)) (hq : pc + 2 = q) (hx : L[i]? = some (some (.int x))) (kk : Wk k n q L (.int x :: S) H) : Wk k n pc L S H := by
  obtain ⟨p, l, e, R, s, m, args, below, meth, c, Q, g, ca, D, sL, X, rfl⟩ := C
  subst hq
  intro Hr locs ls hN hS hl
  exact lv_iload X.exec X.code dg (hl.2.2 _ _ hx) (kk Hr locs ls hN hS hl)
theorem Core.dload_n (C : Core own cc nL d kc ks Wk) {z : Fin 4} {x : UInt64} (dg : decode cc pc = .ok (.dload_n z, 1)) (hq : pc + 1 = q) (hx : L[(z : Nat)]? = some (some (.double x))) (kk : Wk k n q L (.double x :: S) H) : Wk k n pc L S H := by
  obtain ⟨p, l, e, R, s, m, args, below, meth, c, Q, g, ca, D, sL, X, rfl⟩ := C
  subst hq
  intro Hr locs ls hN hS hl
  exact lv_dload_n X.exec X.code dg rfl (hl.2.2 _ _ hx) (kk Hr locs ls hN hS hl)
theorem Core.dload (C : Core own cc nL d kc ks Wk) {i : Nat} {x : UInt64} (dg : decode cc pc = .ok (.dload i, 2)) (hq : pc + 2 = q) (hx : L[i]? = some (some (.double x))) (kk : Wk k n q L (.double x :: S) H) : Wk k n pc L S H := by
  obtain ⟨p, l, e, R, s, m, args, below, meth, c, Q, g, ca, D, sL, X, rfl⟩ := C
  subst hq
  intro Hr locs ls hN hS hl
  exact lv_dload X.exec X.code dg (hl.2.2 _ _ hx) (kk Hr locs ls hN hS hl)
theorem Core.aload_n (C : Core own cc nL d kc ks Wk) {z : Fin 4} {x : Nat} (dg : decode cc pc = .ok (.aload_n z, 1)) (hq : pc + 1 = q) (hx : L[(z : Nat)]? = some (some (.ref x))) (kk : Wk k n q L (.ref x :: S) H) : Wk k n pc L S H := by
  obtain ⟨p, l, e, R, s, m, args, below, meth, c, Q, g, ca, D, sL, X, rfl⟩ := C
  subst hq
  intro Hr locs ls hN hS hl
  exact lv_aload_n X.exec X.code dg rfl (hl.2.2 _ _ hx) (kk Hr locs ls hN hS hl)
theorem Core.aload (C : Core own cc nL d kc ks Wk) {i : Nat} {x : Nat} (dg : decode cc pc = .ok (.aload i, 2)) (hq : pc + 2 = q) (hx : L[i]? = some (some (.ref x))) (kk : Wk k n q L (.ref x :: S) H) : Wk k n pc L S H := by
  obtain ⟨p, l, e, R, s, m, args, below, meth, c, Q, g, ca, D, sL, X, rfl⟩ := C
  subst hq
  intro Hr locs ls hN hS hl
  exact lv_aload X.exec X.code dg (hl.2.2 _ _ hx) (kk Hr locs ls hN hS hl)
theorem Core.aload_nN (C : Core own cc nL d kc ks Wk) {z : Fin 4} (dg : decode cc pc = .ok (.aload_n z, 1)) (hq : pc + 1 = q) (hx : L[(z : Nat)]? = some (some .null)) (kk : Wk k n q L (.null :: S) H) : Wk k n pc L S H := by
  obtain ⟨p, l, e, R, s, m, args, below, meth, c, Q, g, ca, D, sL, X, rfl⟩ := C
  subst hq
  intro Hr locs ls hN hS hl
  exact lv_aload_nN X.exec X.code dg rfl (hl.2.2 _ _ hx) (kk Hr locs ls hN hS hl)
theorem Core.istore_n (C : Core own cc nL d kc ks Wk) {z : Fin 4} {i : Nat} {x : Int32} (dg : decode cc pc = .ok (.istore_n z, 1)) (hq : pc + 1 = q) (hi : (z : Nat) = i) (h0 : i < nL) (h1 : oneL L i = true) (kk : Wk k n q (L.set i (some (.int x))) S H) : Wk k n pc L (.int x :: S) H := by
  obtain ⟨p, l, e, R, s, m, args, below, meth, c, Q, g, ca, D, sL, X, rfl⟩ := C
  subst hq
  intro Hr locs ls hN hS hl
  exact lv_istore_n X.exec X.code dg hi (lH_has hl) h0 rfl (fun ls2 hl2 => kk Hr locs ls2 hN hS (lH_set (v := .int x) h1 hl2))
theorem Core.istore (C : Core own cc nL d kc ks Wk) {i : Nat} {x : Int32} (dg : decode cc pc = .ok (.istore i, 2)) (hq : pc + 2 = q) (h0 : i < nL) (h1 : oneL L i = true) (kk : Wk k n q (L.set i (some (.int x))) S H) : Wk k n pc L (.int x :: S) H := by
  obtain ⟨p, l, e, R, s, m, args, below, meth, c, Q, g, ca, D, sL, X, rfl⟩ := C
  subst hq
  intro Hr locs ls hN hS hl
  exact lv_istore X.exec X.code dg (lH_has hl) h0 rfl (fun ls2 hl2 => kk Hr locs ls2 hN hS (lH_set (v := .int x) h1 hl2))
theorem Core.astore_n (C : Core own cc nL d kc ks Wk) {z : Fin 4} {i : Nat} {x : Nat} (dg : decode cc pc = .ok (.astore_n z, 1)) (hq : pc + 1 = q) (hi : (z : Nat) = i) (h0 : i < nL) (h1 : oneL L i = true) (kk : Wk k n q (L.set i (some (.ref x))) S H) : Wk k n pc L (.ref x :: S) H := by
  obtain ⟨p, l, e, R, s, m, args, below, meth, c, Q, g, ca, D, sL, X, rfl⟩ := C
  subst hq
  intro Hr locs ls hN hS hl
  exact lv_astore_n X.exec X.code dg hi (lH_has hl) h0 rfl (fun ls2 hl2 => kk Hr locs ls2 hN hS (lH_set (v := .ref x) h1 hl2))
theorem Core.astore (C : Core own cc nL d kc ks Wk) {i : Nat} {x : Nat} (dg : decode cc pc = .ok (.astore i, 2)) (hq : pc + 2 = q) (h0 : i < nL) (h1 : oneL L i = true) (kk : Wk k n q (L.set i (some (.ref x))) S H) : Wk k n pc L (.ref x :: S) H := by
  obtain ⟨p, l, e, R, s, m, args, below, meth, c, Q, g, ca, D, sL, X, rfl⟩ := C
  subst hq
  intro Hr locs ls hN hS hl
  exact lv_astore X.exec X.code dg (lH_has hl) h0 rfl (fun ls2 hl2 => kk Hr locs ls2 hN hS (lH_set (v := .ref x) h1 hl2))
theorem Core.dstore_n (C : Core own cc nL d kc ks Wk) {z : Fin 4} {i : Nat} {x : UInt64} (dg : decode cc pc = .ok (.dstore_n z, 1)) (hq : pc + 1 = q) (hi : (z : Nat) = i) (h0 : i + 1 < nL) (h1 : oneL L i = true) (kk : Wk k n q ((L.set i (some (.double x))).set (i + 1) none) S H) : Wk k n pc L (.double x :: S) H := by
  obtain ⟨p, l, e, R, s, m, args, below, meth, c, Q, g, ca, D, sL, X, rfl⟩ := C
  subst hq
  intro Hr locs ls hN hS hl
  exact lv_dstore_n X.exec X.code dg hi (lH_has hl) h0 rfl (fun ls2 hl2 => kk Hr locs ls2 hN hS (lH_set2 (v := .double x) h1 hl2))
theorem Core.dstore (C : Core own cc nL d kc ks Wk) {i : Nat} {x : UInt64} (dg : decode cc pc = .ok (.dstore i, 2)) (hq : pc + 2 = q) (h0 : i + 1 < nL) (h1 : oneL L i = true) (kk : Wk k n q ((L.set i (some (.double x))).set (i + 1) none) S H) : Wk k n pc L (.double x :: S) H := by
  obtain ⟨p, l, e, R, s, m, args, below, meth, c, Q, g, ca, D, sL, X, rfl⟩ := C
  subst hq
  intro Hr locs ls hN hS hl
  exact lv_dstore X.exec X.code dg (lH_has hl) h0 rfl (fun ls2 hl2 => kk Hr locs ls2 hN hS (lH_set2 (v := .double x) h1 hl2))
theorem Core.astore_nN (C : Core own cc nL d kc ks Wk) {z : Fin 4} {i : Nat} (dg : decode cc pc = .ok (.astore_n z, 1)) (hq : pc + 1 = q) (hi : (z : Nat) = i) (h0 : i < nL) (h1 : oneL L i = true) (kk : Wk k n q (L.set i (some .null)) S H) : Wk k n pc L (.null :: S) H := by
  obtain ⟨p, l, e, R, s, m, args, below, meth, c, Q, g, ca, D, sL, X, rfl⟩ := C
  subst hq
  intro Hr locs ls hN hS hl
  exact lv_astore_nN X.exec X.code dg hi (lH_has hl) h0 rfl (fun ls2 hl2 => kk Hr locs ls2 hN hS (lH_set (v := .null) h1 hl2))
theorem Core.iinc (C : Core own cc nL d kc ks Wk) {i : Nat} {z : Int} {x v : Int32} (dg : decode cc pc = .ok (.iinc i z, 3)) (hq : pc + 3 = q) (hx : L[i]? = some (some (.int x))) (hv : x + Int32.ofInt z = v) (h0 : i < nL) (h1 : oneL L i = true) (kk : Wk k n q (L.set i (some (.int v))) S H) : Wk k n pc L S H := by
  obtain ⟨p, l, e, R, s, m, args, below, meth, c, Q, g, ca, D, sL, X, rfl⟩ := C
  subst hq
  intro Hr locs ls hN hS hl
  obtain ⟨kx, hkx⟩ := List.getElem?_of_mem ((lP_mem g L 0 (i, .int x)).mpr ⟨i, .int x, hx, by rw [Nat.zero_add]; rfl⟩)
  exact lv_iinc X.exec X.code dg (lH_has hl) hkx hv h0 rfl (fun ls2 hl2 => kk Hr locs ls2 hN hS (lH_set (v := .int v) h1 hl2))
theorem Core.if_eq (C : Core own cc nL d kc ks Wk) {x : Int32} {off : Int} {tgt : Nat} (dg : decode cc pc = .ok (.ifCond .eq off, 3)) (hq : pc + 3 = q) (ht : (pc : Int) + off = (tgt : Int)) (kt : x = 0 → Wk k n tgt L S H) (kf : ¬ x = 0 → Wk k n q L S H) : Wk k n pc L (.int x :: S) H := by
  obtain ⟨p, l, e, R, s, m, args, below, meth, c, Q, g, ca, D, sL, X, rfl⟩ := C
  subst hq
  intro Hr locs ls hN hS hl
  exact lv_if_eq X.exec X.code dg ht (fun z => kt z Hr locs ls hN hS hl) (fun z => kf z Hr locs ls hN hS hl)
theorem Core.icmp_eq (C : Core own cc nL d kc ks Wk) {x y : Int32} {off : Int} {tgt : Nat} (dg : decode cc pc = .ok (.if_icmp .eq off, 3)) (hq : pc + 3 = q) (ht : (pc : Int) + off = (tgt : Int)) (kt : x = y → Wk k n tgt L S H) (kf : ¬ x = y → Wk k n q L S H) : Wk k n pc L (.int y :: .int x :: S) H := by
  obtain ⟨p, l, e, R, s, m, args, below, meth, c, Q, g, ca, D, sL, X, rfl⟩ := C
  subst hq
  intro Hr locs ls hN hS hl
  exact lv_icmp_eq X.exec X.code dg ht (fun z => kt z Hr locs ls hN hS hl) (fun z => kf z Hr locs ls hN hS hl)
theorem Core.if_ne (C : Core own cc nL d kc ks Wk) {x : Int32} {off : Int} {tgt : Nat} (dg : decode cc pc = .ok (.ifCond .ne off, 3)) (hq : pc + 3 = q) (ht : (pc : Int) + off = (tgt : Int)) (kt : ¬ x = 0 → Wk k n tgt L S H) (kf : x = 0 → Wk k n q L S H) : Wk k n pc L (.int x :: S) H := by
  obtain ⟨p, l, e, R, s, m, args, below, meth, c, Q, g, ca, D, sL, X, rfl⟩ := C
  subst hq
  intro Hr locs ls hN hS hl
  exact lv_if_ne X.exec X.code dg ht (fun z => kt z Hr locs ls hN hS hl) (fun z => kf z Hr locs ls hN hS hl)
theorem Core.icmp_ne (C : Core own cc nL d kc ks Wk) {x y : Int32} {off : Int} {tgt : Nat} (dg : decode cc pc = .ok (.if_icmp .ne off, 3)) (hq : pc + 3 = q) (ht : (pc : Int) + off = (tgt : Int)) (kt : ¬ x = y → Wk k n tgt L S H) (kf : x = y → Wk k n q L S H) : Wk k n pc L (.int y :: .int x :: S) H := by
  obtain ⟨p, l, e, R, s, m, args, below, meth, c, Q, g, ca, D, sL, X, rfl⟩ := C
  subst hq
  intro Hr locs ls hN hS hl
  exact lv_icmp_ne X.exec X.code dg ht (fun z => kt z Hr locs ls hN hS hl) (fun z => kf z Hr locs ls hN hS hl)
theorem Core.if_lt (C : Core own cc nL d kc ks Wk) {x : Int32} {off : Int} {tgt : Nat} (dg : decode cc pc = .ok (.ifCond .lt off, 3)) (hq : pc + 3 = q) (ht : (pc : Int) + off = (tgt : Int)) (kt : x < 0 → Wk k n tgt L S H) (kf : ¬ x < 0 → Wk k n q L S H) : Wk k n pc L (.int x :: S) H := by
  obtain ⟨p, l, e, R, s, m, args, below, meth, c, Q, g, ca, D, sL, X, rfl⟩ := C
  subst hq
  intro Hr locs ls hN hS hl
  exact lv_if_lt X.exec X.code dg ht (fun z => kt z Hr locs ls hN hS hl) (fun z => kf z Hr locs ls hN hS hl)
theorem Core.icmp_lt (C : Core own cc nL d kc ks Wk) {x y : Int32} {off : Int} {tgt : Nat} (dg : decode cc pc = .ok (.if_icmp .lt off, 3)) (hq : pc + 3 = q) (ht : (pc : Int) + off = (tgt : Int)) (kt : x < y → Wk k n tgt L S H) (kf : ¬ x < y → Wk k n q L S H) : Wk k n pc L (.int y :: .int x :: S) H := by
  obtain ⟨p, l, e, R, s, m, args, below, meth, c, Q, g, ca, D, sL, X, rfl⟩ := C
  subst hq
  intro Hr locs ls hN hS hl
  exact lv_icmp_lt X.exec X.code dg ht (fun z => kt z Hr locs ls hN hS hl) (fun z => kf z Hr locs ls hN hS hl)
theorem Core.if_ge (C : Core own cc nL d kc ks Wk) {x : Int32} {off : Int} {tgt : Nat} (dg : decode cc pc = .ok (.ifCond .ge off, 3)) (hq : pc + 3 = q) (ht : (pc : Int) + off = (tgt : Int)) (kt : 0 ≤ x → Wk k n tgt L S H) (kf : ¬ 0 ≤ x → Wk k n q L S H) : Wk k n pc L (.int x :: S) H := by
  obtain ⟨p, l, e, R, s, m, args, below, meth, c, Q, g, ca, D, sL, X, rfl⟩ := C
  subst hq
  intro Hr locs ls hN hS hl
  exact lv_if_ge X.exec X.code dg ht (fun z => kt z Hr locs ls hN hS hl) (fun z => kf z Hr locs ls hN hS hl)
theorem Core.icmp_ge (C : Core own cc nL d kc ks Wk) {x y : Int32} {off : Int} {tgt : Nat} (dg : decode cc pc = .ok (.if_icmp .ge off, 3)) (hq : pc + 3 = q) (ht : (pc : Int) + off = (tgt : Int)) (kt : y ≤ x → Wk k n tgt L S H) (kf : ¬ y ≤ x → Wk k n q L S H) : Wk k n pc L (.int y :: .int x :: S) H := by
  obtain ⟨p, l, e, R, s, m, args, below, meth, c, Q, g, ca, D, sL, X, rfl⟩ := C
  subst hq
  intro Hr locs ls hN hS hl
  exact lv_icmp_ge X.exec X.code dg ht (fun z => kt z Hr locs ls hN hS hl) (fun z => kf z Hr locs ls hN hS hl)
theorem Core.if_gt (C : Core own cc nL d kc ks Wk) {x : Int32} {off : Int} {tgt : Nat} (dg : decode cc pc = .ok (.ifCond .gt off, 3)) (hq : pc + 3 = q) (ht : (pc : Int) + off = (tgt : Int)) (kt : 0 < x → Wk k n tgt L S H) (kf : ¬ 0 < x → Wk k n q L S H) : Wk k n pc L (.int x :: S) H := by
  obtain ⟨p, l, e, R, s, m, args, below, meth, c, Q, g, ca, D, sL, X, rfl⟩ := C
  subst hq
  intro Hr locs ls hN hS hl
  exact lv_if_gt X.exec X.code dg ht (fun z => kt z Hr locs ls hN hS hl) (fun z => kf z Hr locs ls hN hS hl)
theorem Core.icmp_gt (C : Core own cc nL d kc ks Wk) {x y : Int32} {off : Int} {tgt : Nat} (dg : decode cc pc = .ok (.if_icmp .gt off, 3)) (hq : pc + 3 = q) (ht : (pc : Int) + off = (tgt : Int)) (kt : y < x → Wk k n tgt L S H) (kf : ¬ y < x → Wk k n q L S H) : Wk k n pc L (.int y :: .int x :: S) H := by
  obtain ⟨p, l, e, R, s, m, args, below, meth, c, Q, g, ca, D, sL, X, rfl⟩ := C
  subst hq
  intro Hr locs ls hN hS hl
  exact lv_icmp_gt X.exec X.code dg ht (fun z => kt z Hr locs ls hN hS hl) (fun z => kf z Hr locs ls hN hS hl)
theorem Core.if_le (C : Core own cc nL d kc ks Wk) {x : Int32} {off : Int} {tgt : Nat} (dg : decode cc pc = .ok (.ifCond .le off, 3)) (hq : pc + 3 = q) (ht : (pc : Int) + off = (tgt : Int)) (kt : x ≤ 0 → Wk k n tgt L S H) (kf : ¬ x ≤ 0 → Wk k n q L S H) : Wk k n pc L (.int x :: S) H := by
  obtain ⟨p, l, e, R, s, m, args, below, meth, c, Q, g, ca, D, sL, X, rfl⟩ := C
  subst hq
  intro Hr locs ls hN hS hl
  exact lv_if_le X.exec X.code dg ht (fun z => kt z Hr locs ls hN hS hl) (fun z => kf z Hr locs ls hN hS hl)
theorem Core.icmp_le (C : Core own cc nL d kc ks Wk) {x y : Int32} {off : Int} {tgt : Nat} (dg : decode cc pc = .ok (.if_icmp .le off, 3)) (hq : pc + 3 = q) (ht : (pc : Int) + off = (tgt : Int)) (kt : x ≤ y → Wk k n tgt L S H) (kf : ¬ x ≤ y → Wk k n q L S H) : Wk k n pc L (.int y :: .int x :: S) H := by
  obtain ⟨p, l, e, R, s, m, args, below, meth, c, Q, g, ca, D, sL, X, rfl⟩ := C
  subst hq
  intro Hr locs ls hN hS hl
  exact lv_icmp_le X.exec X.code dg ht (fun z => kt z Hr locs ls hN hS hl) (fun z => kf z Hr locs ls hN hS hl)
theorem Core.goto (C : Core own cc nL d kc ks Wk) {off : Int} {tgt : Nat} (dg : decode cc pc = .ok (.goto off, 3)) (ht : (pc : Int) + off = (tgt : Int)) (kk : Wk k n tgt L S H) : Wk k n pc L S H := by
  obtain ⟨p, l, e, R, s, m, args, below, meth, c, Q, g, ca, D, sL, X, rfl⟩ := C
  intro Hr locs ls hN hS hl
  exact lv_goto X.exec X.code dg ht (kk Hr locs ls hN hS hl)
theorem Core.ifnull (C : Core own cc nL d kc ks Wk) {x : Nat} {off : Int} (dg : decode cc pc = .ok (.ifnull off, 3)) (hq : pc + 3 = q) (kk : Wk k n q L S H) : Wk k n pc L (.ref x :: S) H := by
  obtain ⟨p, l, e, R, s, m, args, below, meth, c, Q, g, ca, D, sL, X, rfl⟩ := C
  subst hq
  intro Hr locs ls hN hS hl
  exact lv_ifnull X.exec X.code dg (kk Hr locs ls hN hS hl)
theorem Core.ifnullN (C : Core own cc nL d kc ks Wk) {off : Int} {tgt : Nat} (dg : decode cc pc = .ok (.ifnull off, 3)) (ht : (pc : Int) + off = (tgt : Int)) (kk : Wk k n tgt L S H) : Wk k n pc L (.null :: S) H := by
  obtain ⟨p, l, e, R, s, m, args, below, meth, c, Q, g, ca, D, sL, X, rfl⟩ := C
  intro Hr locs ls hN hS hl
  exact lv_ifnullN X.exec X.code dg ht (kk Hr locs ls hN hS hl)
theorem Core.tableOut (C : Core own cc nL d kc ks Wk) {dflt lo hi : Int} {offs : Array Int} {len : Nat} {x : Int32} {tgt : Nat} (dg : decode cc pc = .ok (.tableswitch dflt lo hi offs, len)) (h : x.toInt < lo ∨ hi < x.toInt) (ht : (pc : Int) + dflt = (tgt : Int)) (kk : Wk k n tgt L S H) : Wk k n pc L (.int x :: S) H := by
  obtain ⟨p, l, e, R, s, m, args, below, meth, c, Q, g, ca, D, sL, X, rfl⟩ := C
  intro Hr locs ls hN hS hl
  exact lv_tableOut X.exec X.code dg h ht (kk Hr locs ls hN hS hl)
theorem Core.tableIn (C : Core own cc nL d kc ks Wk) {dflt lo hi : Int} {offs : Array Int} {len : Nat} {x : Int32} {off : Int} {tgt : Nat} (dg : decode cc pc = .ok (.tableswitch dflt lo hi offs, len)) (h1 : ¬ x.toInt < lo) (h2 : ¬ hi < x.toInt) (ho : offs[(x.toInt - lo).toNat]? = some off) (ht : (pc : Int) + off = (tgt : Int)) (kk : Wk k n tgt L S H) : Wk k n pc L (.int x :: S) H := by
  obtain ⟨p, l, e, R, s, m, args, below, meth, c, Q, g, ca, D, sL, X, rfl⟩ := C
  intro Hr locs ls hN hS hl
  exact lv_tableIn X.exec X.code dg h1 h2 ho ht (kk Hr locs ls hN hS hl)
theorem Core.lookup (C : Core own cc nL d kc ks Wk) {dflt : Int} {ps : Array (Int × Int)} {len : Nat} {x : Int32} {off : Int} {tgt : Nat} (dg : decode cc pc = .ok (.lookupswitch dflt ps, len)) (hp : (ps.toList.zip (ps.toList.drop 1)).all (fun (a, next) => a.1 < next.1) = true) (ho : Op.lookupswitch.offset ps.toList dflt x.toInt = off) (ht : (pc : Int) + off = (tgt : Int)) (kk : Wk k n tgt L S H) : Wk k n pc L (.int x :: S) H := by
  obtain ⟨p, l, e, R, s, m, args, below, meth, c, Q, g, ca, D, sL, X, rfl⟩ := C
  intro Hr locs ls hN hS hl
  exact lv_lookup X.exec X.code dg hp ho ht (kk Hr locs ls hN hS hl)
theorem Core.ldcf (C : Core own cc nL d kc ks Wk) {idx : Nat} {v : UInt32} (hc : wok (.constantFloat own idx v)) (dg : decode cc pc = .ok (.ldc idx, 2)) (hq : pc + 2 = q) (kk : Wk k n q L (.float v :: S) H) : Wk k n pc L S H := by
  obtain ⟨p, l, e, R, s, m, args, below, meth, c, Q, g, ca, D, sL, X, rfl⟩ := C
  subst hq
  intro Hr locs ls hN hS hl
  exact lv_ldcf X.exec X.code X.ow (X.word hc args) dg (kk Hr locs ls hN hS hl)
theorem Core.ldcfW (C : Core own cc nL d kc ks Wk) {idx : Nat} {v : UInt32} (hc : wok (.constantFloat own idx v)) (dg : decode cc pc = .ok (.ldc_w idx, 3)) (hq : pc + 3 = q) (kk : Wk k n q L (.float v :: S) H) : Wk k n pc L S H := by
  obtain ⟨p, l, e, R, s, m, args, below, meth, c, Q, g, ca, D, sL, X, rfl⟩ := C
  subst hq
  intro Hr locs ls hN hS hl T hT Y
  obtain ⟨t, a, b⟩ := kk Hr locs ls hN hS hl T hT Y
  obtain ⟨k9, cf, hk9, hcf, hcp⟩ := Cond.constantFloat_spec X.ow (X.word hc args)
  obtain ⟨k', hk', he⟩ := Y.warmed.alike.2.2 _ _ hk9
  refine ⟨t, ?_, b⟩
  have dg' : decode c.code (F0 m pc ls (S.map (rv g))).pc = .ok (.ldc_w idx, 3) := by rw [X.code]; exact dg
  jvm_step Y.here [X.exec, dg', ldc_w.wp_float (s := T) (f := F0 m pc ls (S.map (rv g))) Y.here.top hk' (by rw [he]; exact hcf) hcp]
  exact a
theorem Core.mmax (C : Core own cc nL d kc ks Wk) {idx : Nat} {x y : Int32} (hw : wok (.methodLink own idx Lib.Math.max.name)) (hd : 1 ≤ d) (hr : (S.map fun v => v.category).sum ≤ 8) (dg : decode cc pc = .ok (.invokestatic idx, 3)) (hq : pc + 3 = q) (hk : k ≤ kc) (hn : n ≤ ks) (kk : Wk k n q L (.int (if x < y then y else x) :: S) H) : Wk k n pc L (.int y :: .int x :: S) H := by
  obtain ⟨p, l, e, R, s, m, args, below, meth, c, Q, g, ca, D, sL, X, rfl⟩ := C
  subst hq
  intro Hr locs ls hN hS hl
  have e : ((S.map (rv g)).map fun v => v.category).sum = (S.map fun v => v.category).sum := by
    rw [List.map_map]; congr 1; exact List.map_congr_left (fun v _ => rv_cat g v)
  have h1 := X.frames
  have h2 := X.locals
  exact va_mmax X.exec X.code (X.max.trans hl.1.symm) X.ow (X.word hw args) (X.word sw_Math_max args) (X.word iw_Math args) (X.word ow_Math_max args) (by omega) (by rw [e]; omega) (Nat.le_trans hk X.cells) (Nat.le_trans hn X.slots) dg (kk Hr locs ls hN hS hl)
theorem Core.mmin (C : Core own cc nL d kc ks Wk) {idx : Nat} {x y : Int32} (hw : wok (.methodLink own idx Lib.Math.min.name)) (hd : 1 ≤ d) (hr : (S.map fun v => v.category).sum ≤ 8) (dg : decode cc pc = .ok (.invokestatic idx, 3)) (hq : pc + 3 = q) (hk : k ≤ kc) (hn : n ≤ ks) (kk : Wk k n q L (.int (if y < x then y else x) :: S) H) : Wk k n pc L (.int y :: .int x :: S) H := by
  obtain ⟨p, l, e, R, s, m, args, below, meth, c, Q, g, ca, D, sL, X, rfl⟩ := C
  subst hq
  intro Hr locs ls hN hS hl
  have e : ((S.map (rv g)).map fun v => v.category).sum = (S.map fun v => v.category).sum := by
    rw [List.map_map]; congr 1; exact List.map_congr_left (fun v _ => rv_cat g v)
  have h1 := X.frames
  have h2 := X.locals
  exact va_mmin X.exec X.code (X.max.trans hl.1.symm) X.ow (X.word hw args) (X.word sw_Math_min args) (X.word iw_Math args) (X.word ow_Math_min args) (by omega) (by rw [e]; omega) (Nat.le_trans hk X.cells) (Nat.le_trans hn X.slots) dg (kk Hr locs ls hN hS hl)
end
