/-! ===== the constructors ===== -/
def dfl : mC := .inl (0, 0, .inl (fun _ => 0))
def hp (cs : List mC) : aH := (true, cs.length, fun j => (cs[j]?).getD dfl)
theorem hp_push (cs : List mC) (c : mC) : pH (hp cs) c = hp (cs ++ [c]) := by
  unfold pH hp
  refine Prod.ext rfl (Prod.ext ?_ ?_)
  · show cs.length + 1 = (cs ++ [c]).length
    rw [List.length_append]; rfl
  · funext j
    show fu (fun j => (cs[j]?).getD dfl) cs.length c j = ((cs ++ [c])[j]?).getD dfl
    by_cases e : j = cs.length
    · subst e
      rw [fu_self, List.getElem?_append_right (Nat.le_refl _), Nat.sub_self]; rfl
    · rw [fu_ne e]
      by_cases e2 : j < cs.length
      · rw [List.getElem?_append_left e2]
      · rw [List.getElem?_append_right (by omega), List.getElem?_eq_none (by omega), List.getElem?_eq_none (by rw [List.length_singleton]; omega)]
theorem hp_get {cs ds : List mC} {a q : Nat} {c : mC} (h : cs.length = a) (hq : ds[q]? = some c) : (hp (cs ++ ds)).2.2 (a + q) = c := by
  subst h
  show ((cs ++ ds)[cs.length + q]?).getD dfl = c
  rw [List.getElem?_append_right (by omega), Nat.add_sub_cancel_left, hq]; rfl
theorem hp_lt {cs ds : List mC} {a q : Nat} (h : cs.length = a) (hq : q < ds.length) : a + q < (hp (cs ++ ds)).2.1 := by
  show _ < (cs ++ ds).length
  rw [List.length_append]; omega
theorem hp_set {cs ds ds' : List mC} {a q : Nat} {c : mC} (h : cs.length = a) (hq : q < ds.length) (hd : ds.set q c = ds') : sH (hp (cs ++ ds)) (a + q) c = hp (cs ++ ds') := by
  subst h; subst hd
  unfold sH hp
  refine Prod.ext rfl (Prod.ext ?_ ?_)
  · show (cs ++ ds).length = (cs ++ ds.set q c).length
    rw [List.length_append, List.length_append, List.length_set]
  · funext j
    show fu (fun j => ((cs ++ ds)[j]?).getD dfl) (cs.length + q) c j = ((cs ++ ds.set q c)[j]?).getD dfl
    by_cases e : j = cs.length + q
    · subst e
      rw [fu_self, List.getElem?_append_right (by omega), Nat.add_sub_cancel_left, List.getElem?_set_self hq]; rfl
    · rw [fu_ne e]
      by_cases e2 : j < cs.length
      · rw [List.getElem?_append_left e2, List.getElem?_append_left e2]
      · rw [List.getElem?_append_right (by omega), List.getElem?_append_right (by omega), List.getElem?_set_ne (by omega)]
section
variable {own : String} {cc : ByteArray} {nL d kc ks : Nat} {Wk : tW} {k n pc q : Nat} {L : List (Option Value)} {S : List Value} {cs ds ds' : List mC} {a b : Nat}
theorem hp_top (h : cs.length = a) (hb : ds.length = b) : (hp (cs ++ ds)).2.1 = a + b := by
  show (cs ++ ds).length = _
  rw [List.length_append, h, hb]
theorem Core.newL (C : Core own cc nL d kc ks Wk) (h : cs.length = a) (hb : ds.length = b) {idx ci N : Nat} {C0 : String} {fs : List Value} (hC : COk ci C0 N fs) (hk : wok (.classLink own idx C0)) (ha : wok (.instantiable C0 N)) (hw : wok (.initialized C0)) (h9 : a + b < 131) (hkc : k + 1 ≤ kc) (hks : n + N ≤ ks)
    (dg : decode cc pc = .ok (.new idx, 3)) (hq : pc + 3 = q) (hd : ds ++ [.inr (ci, fs)] = ds') (kk : Wk (k + 1) (n + N) q L (.ref (a + b) :: S) (hp (cs ++ ds'))) : Wk k n pc L S (hp (cs ++ ds)) := by
  have e := hp_top h hb
  refine C.new hC hk ha hw rfl (by rw [e]; exact h9) hkc hks dg hq ?_
  rw [e, hp_push, List.append_assoc, hd]; exact kk
theorem Core.newaL (C : Core own cc nL d kc ks Wk) (h : cs.length = a) (hb : ds.length = b) {t N : Nat} {atype : ArrayType} {x : Int32} {x0 : vp_A} (hA : wok (.arrayClass (newarray.typeOf atype))) (ht : newarray.typeOf atype = tyOf t ∧ t < 4) (hx : ∀ cA : ClassId, vp_cell cA x0 = arrV cA N (fun _ => defaultValue (tyOf t))) (hx2 : ∀ g, rx g x0 = x0) (h0 : ¬ x < 0) (hN0 : x.toNatClampNeg = N) (hb0 : N ≤ 10000)
    (h9 : a + b < 131) (hkc : k + 1 ≤ kc) (hks : n + N ≤ ks) (dg : decode cc pc = .ok (.newarray atype, 2)) (hq : pc + 2 = q) (hd : ds ++ [.inl (t, x0)] = ds') (kk : Wk (k + 1) (n + N) q L (.ref (a + b) :: S) (hp (cs ++ ds'))) : Wk k n pc L (.int x :: S) (hp (cs ++ ds)) := by
  have e := hp_top h hb
  refine C.newa hA ht hx hx2 h0 hN0 hb0 rfl (by rw [e]; exact h9) hkc hks dg hq ?_
  rw [e, hp_push, List.append_assoc, hd]; exact kk
theorem Core.newqL (C : Core own cc nL d kc ks Wk) (h : cs.length = a) (hb : ds.length = b) {idx N : Nat} {x : Int32} (hk : wok (.classLink own idx RX0)) (h0 : ¬ x < 0) (hN0 : x.toNatClampNeg = N) (hb0 : N ≤ 10000) (h9 : a + b < 131) (hkc : k + 1 ≤ kc) (hks : n + N ≤ ks)
    (dg : decode cc pc = .ok (.anewarray idx, 3)) (hq : pc + 3 = q) (hd : ds ++ [.inl (4, N, .inr (.inr (.inr (.inr (fun _ => none)))))] = ds') (kk : Wk (k + 1) (n + N) q L (.ref (a + b) :: S) (hp (cs ++ ds'))) : Wk k n pc L (.int x :: S) (hp (cs ++ ds)) := by
  have e := hp_top h hb
  refine C.newq hk h0 hN0 hb0 rfl (by rw [e]; exact h9) hkc hks dg hq ?_
  rw [e, hp_push, List.append_assoc, hd]; exact kk
end
theorem co_X0 : COk 2 RX0 3 [.null, .null, .null] := ⟨TX0, tyX0, rfl, inX0, tyX0_ok, fun j hj => by rcases (show j = 0 ∨ j = 1 ∨ j = 2 by omega) with rfl | rfl | rfl <;> rfl⟩
theorem co_X1 : COk 3 RX1 3 [.null, .int 0, .int 0] := ⟨TX1, tyX1, rfl, inX1, tyX1_ok, fun j hj => by rcases (show j = 0 ∨ j = 1 ∨ j = 2 by omega) with rfl | rfl | rfl <;> rfl⟩
theorem co_X2 : COk 4 RX2 2 [.null, .int 0] := ⟨TX2, tyX2, rfl, inX2, tyX2_ok, fun j hj => by rcases (show j = 0 ∨ j = 1 by omega) with rfl | rfl <;> rfl⟩
theorem co_X3 : COk 5 RX3 5 [.null, .null, .null, .null, .int 0] := ⟨TX3, tyX3, rfl, inX3, tyX3_ok, fun j hj => by rcases (show j = 0 ∨ j = 1 ∨ j = 2 ∨ j = 3 ∨ j = 4 by omega) with rfl | rfl | rfl | rfl | rfl <;> rfl⟩
theorem co_X4 : COk 6 RX4 8 [.null, .null, .null, .int 0, .null, .int 0, .int 0, .int 0] := ⟨TX4, tyX4, rfl, inX4, tyX4_ok, fun j hj => by rcases (show j = 0 ∨ j = 1 ∨ j = 2 ∨ j = 3 ∨ j = 4 ∨ j = 5 ∨ j = 6 ∨ j = 7 by omega) with rfl | rfl | rfl | rfl | rfl | rfl | rfl | rfl <;> rfl⟩
theorem co_X5 : COk 7 RX5 4 [.null, .int 0, .int 0, .int 0] := ⟨TX5, tyX5, rfl, inX5, tyX5_ok, fun j hj => by rcases (show j = 0 ∨ j = 1 ∨ j = 2 ∨ j = 3 by omega) with rfl | rfl | rfl | rfl <;> rfl⟩
theorem co_X6 : COk 8 RX6 3 [.null, .null, .int 0] := ⟨TX6, tyX6, rfl, inX6, tyX6_ok, fun j hj => by rcases (show j = 0 ∨ j = 1 ∨ j = 2 by omega) with rfl | rfl | rfl <;> rfl⟩
theorem co_X7 : COk 9 RX7 10 [.null, .null, .null, .null, .null, .null, .int 0, .int 0, .int 0, .int 0] := ⟨TX7, tyX7, rfl, inX7, tyX7_ok, fun j hj => by rcases (show j = 0 ∨ j = 1 ∨ j = 2 ∨ j = 3 ∨ j = 4 ∨ j = 5 ∨ j = 6 ∨ j = 7 ∨ j = 8 ∨ j = 9 by omega) with rfl | rfl | rfl | rfl | rfl | rfl | rfl | rfl | rfl | rfl <;> rfl⟩
theorem s_X5_init {cs : List mC} {a : Nat} (h : cs.length = a) (h9 : a + 2 ≤ 131) : Ct 1 1 64 yX5_init (.code yX5_init cX5_init 1 none) [.ref a] (hp (cs ++ [.inr (7, [.null, .int 0, .int 0, .int 0])])) (.inl none) (hp (cs ++ [.inr (7, [.ref (a + 1), .int 0, .int 0, .int 0]), .inl (0, 64, .inl (up (fun _ => 0) 0 64))])) := by
  refine Ct.of (LL := [some (.ref a)]) mkX5_init.1 owX5_init rfl (Nat.le_of_ble_eq_true rfl) rfl (fun Wk C => ?_)
  rw [show (yX5_init.name == "<init>") = true by decide] at C
  have K := C.core
  refine K.aload_n (q := 1) dX5_init_0 rfl rfl ?_
  refine K.objInit (q := 4) mw_X5_3 (Nat.le_of_ble_eq_true rfl) (Nat.le_of_ble_eq_true rfl) dX5_init_1 rfl ?_
  refine K.aload_n (q := 5) dX5_init_4 rfl rfl ?_
  refine K.bipush (q := 7) (v := 64) dX5_init_5 rfl (by decide) ?_
  refine K.newaL (atype := .int) (a := a) (b := 1) (t := 0) (N := 64) (x0 := (64, .inl (fun _ => 0))) (ds' := [.inr (7, [.null, .int 0, .int 0, .int 0]), .inl (0, 64, .inl (fun _ => 0))]) (q := 9) h rfl cw_int ⟨rfl, by decide⟩ (fun _ => rfl) (fun _ => rfl) (by decide) (by decide) (by decide) (by omega) (Nat.le_of_ble_eq_true rfl) (Nat.le_of_ble_eq_true rfl) dX5_init_7 rfl rfl ?_
  refine C.putF (q := 12) (fs := [.null, .int 0, .int 0, .int 0]) fo_X5_9 (hp_get (q := 0) h rfl) (hp_lt (q := 0) h (Nat.le_of_ble_eq_true rfl)) (Nat.le_of_ble_eq_true rfl) (fun _ => rfl) (fun _ => rfl) (hp_set (q := 0) (ds' := [.inr (7, [.ref (a + 1), .int 0, .int 0, .int 0]), .inl (0, 64, .inl (fun _ => 0))]) h (Nat.le_of_ble_eq_true rfl) rfl) dX5_init_9 rfl ?_
  refine K.aload_n (q := 13) dX5_init_12 rfl rfl ?_
  refine K.iconst (q := 14) (v := 0) dX5_init_13 rfl (by decide) ?_
  refine K.putf (q := 17) (fs := [.ref (a + 1), .int 0, .int 0, .int 0]) fo_X5_15 (hp_get (q := 0) h rfl) (hp_lt (q := 0) h (Nat.le_of_ble_eq_true rfl)) (Nat.le_of_ble_eq_true rfl) (fun _ => rfl) (fun _ => rfl) (hp_set (q := 0) (ds' := [.inr (7, [.ref (a + 1), .int 0, .int 0, .int 0]), .inl (0, 64, .inl (fun _ => 0))]) h (Nat.le_of_ble_eq_true rfl) rfl) dX5_init_14 rfl ?_
  refine K.aload_n (q := 18) dX5_init_17 rfl rfl ?_
  refine K.iconst (q := 19) (v := 0) dX5_init_18 rfl (by decide) ?_
  refine K.putf (q := 22) (fs := [.ref (a + 1), .int 0, .int 0, .int 0]) fo_X5_19 (hp_get (q := 0) h rfl) (hp_lt (q := 0) h (Nat.le_of_ble_eq_true rfl)) (Nat.le_of_ble_eq_true rfl) (fun _ => rfl) (fun _ => rfl) (hp_set (q := 0) (ds' := [.inr (7, [.ref (a + 1), .int 0, .int 0, .int 0]), .inl (0, 64, .inl (fun _ => 0))]) h (Nat.le_of_ble_eq_true rfl) rfl) dX5_init_19 rfl ?_
  refine K.aload_n (q := 23) dX5_init_22 rfl rfl ?_
  refine K.iconst (q := 24) (v := 0) dX5_init_23 rfl (by decide) ?_
  refine K.putf (q := 27) (fs := [.ref (a + 1), .int 0, .int 0, .int 0]) fo_X5_22 (hp_get (q := 0) h rfl) (hp_lt (q := 0) h (Nat.le_of_ble_eq_true rfl)) (Nat.le_of_ble_eq_true rfl) (fun _ => rfl) (fun _ => rfl) (hp_set (q := 0) (ds' := [.inr (7, [.ref (a + 1), .int 0, .int 0, .int 0]), .inl (0, 64, .inl (fun _ => 0))]) h (Nat.le_of_ble_eq_true rfl) rfl) dX5_init_24 rfl ?_
  refine K.aload_n (q := 28) dX5_init_27 rfl rfl ?_
  refine K.getf (q := 31) (v := .ref (a + 1)) (fs := [.ref (a + 1), .int 0, .int 0, .int 0]) fo_X5_9.r (hp_get (q := 0) h rfl) (hp_lt (q := 0) h (Nat.le_of_ble_eq_true rfl)) rfl dX5_init_28 rfl ?_
  refine K.iconst (q := 32) (v := 0) dX5_init_31 rfl (by decide) ?_
  refine K.bipush (q := 34) (v := 64) dX5_init_32 rfl (by decide) ?_
  refine K.ias (q := 35) (m := 0) (f := fun _ => 0) (len := 64) (hp_get (q := 1) h rfl) (hp_lt (q := 1) h (Nat.le_of_ble_eq_true rfl)) rfl (by decide) (by decide) (hp_set (q := 1) (ds' := [.inr (7, [.ref (a + 1), .int 0, .int 0, .int 0]), .inl (0, 64, .inl (up (fun _ => 0) 0 64))]) h (Nat.le_of_ble_eq_true rfl) rfl) dX5_init_34 rfl ?_
  exact C.vret rfl rfl rfl (Nat.le_of_ble_eq_true rfl) (Nat.le_of_ble_eq_true rfl) dX5_init_35
theorem s_X3_init {cs : List mC} {a : Nat} (h : cs.length = a) (h9 : a + 5 ≤ 131) : Ct 1 4 64 yX3_init (.code yX3_init cX3_init 1 none) [.ref a] (hp (cs ++ [.inr (5, [.null, .null, .null, .null, .int 0])])) (.inl none) (hp (cs ++ [.inr (5, [.ref (a + 1), .ref (a + 2), .ref (a + 3), .ref (a + 4), .int 0]), .inl (0, 16, .inl (fun _ => 0)), .inl (0, 16, .inl (fun _ => 0)), .inl (0, 16, .inl (fun _ => 0)), .inl (0, 16, .inl (fun _ => 0))])) := by
  refine Ct.of (LL := [some (.ref a)]) mkX3_init.1 owX3_init rfl (Nat.le_of_ble_eq_true rfl) rfl (fun Wk C => ?_)
  rw [show (yX3_init.name == "<init>") = true by decide] at C
  have K := C.core
  refine K.aload_n (q := 1) dX3_init_0 rfl rfl ?_
  refine K.objInit (q := 4) mw_X3_3 (Nat.le_of_ble_eq_true rfl) (Nat.le_of_ble_eq_true rfl) dX3_init_1 rfl ?_
  refine K.aload_n (q := 5) dX3_init_4 rfl rfl ?_
  refine K.bipush (q := 7) (v := 16) dX3_init_5 rfl (by decide) ?_
  refine K.newaL (atype := .int) (a := a) (b := 1) (t := 0) (N := 16) (x0 := (16, .inl (fun _ => 0))) (ds' := [.inr (5, [.null, .null, .null, .null, .int 0]), .inl (0, 16, .inl (fun _ => 0))]) (q := 9) h rfl cw_int ⟨rfl, by decide⟩ (fun _ => rfl) (fun _ => rfl) (by decide) (by decide) (by decide) (by omega) (Nat.le_of_ble_eq_true rfl) (Nat.le_of_ble_eq_true rfl) dX3_init_7 rfl rfl ?_
  refine C.putF (q := 12) (fs := [.null, .null, .null, .null, .int 0]) fo_X3_9 (hp_get (q := 0) h rfl) (hp_lt (q := 0) h (Nat.le_of_ble_eq_true rfl)) (Nat.le_of_ble_eq_true rfl) (fun _ => rfl) (fun _ => rfl) (hp_set (q := 0) (ds' := [.inr (5, [.ref (a + 1), .null, .null, .null, .int 0]), .inl (0, 16, .inl (fun _ => 0))]) h (Nat.le_of_ble_eq_true rfl) rfl) dX3_init_9 rfl ?_
  refine K.aload_n (q := 13) dX3_init_12 rfl rfl ?_
  refine K.bipush (q := 15) (v := 16) dX3_init_13 rfl (by decide) ?_
  refine K.newaL (atype := .int) (a := a) (b := 2) (t := 0) (N := 16) (x0 := (16, .inl (fun _ => 0))) (ds' := [.inr (5, [.ref (a + 1), .null, .null, .null, .int 0]), .inl (0, 16, .inl (fun _ => 0)), .inl (0, 16, .inl (fun _ => 0))]) (q := 17) h rfl cw_int ⟨rfl, by decide⟩ (fun _ => rfl) (fun _ => rfl) (by decide) (by decide) (by decide) (by omega) (Nat.le_of_ble_eq_true rfl) (Nat.le_of_ble_eq_true rfl) dX3_init_15 rfl rfl ?_
  refine C.putF (q := 20) (fs := [.ref (a + 1), .null, .null, .null, .int 0]) fo_X3_15 (hp_get (q := 0) h rfl) (hp_lt (q := 0) h (Nat.le_of_ble_eq_true rfl)) (Nat.le_of_ble_eq_true rfl) (fun _ => rfl) (fun _ => rfl) (hp_set (q := 0) (ds' := [.inr (5, [.ref (a + 1), .ref (a + 2), .null, .null, .int 0]), .inl (0, 16, .inl (fun _ => 0)), .inl (0, 16, .inl (fun _ => 0))]) h (Nat.le_of_ble_eq_true rfl) rfl) dX3_init_17 rfl ?_
  refine K.aload_n (q := 21) dX3_init_20 rfl rfl ?_
  refine K.bipush (q := 23) (v := 16) dX3_init_21 rfl (by decide) ?_
  refine K.newaL (atype := .int) (a := a) (b := 3) (t := 0) (N := 16) (x0 := (16, .inl (fun _ => 0))) (ds' := [.inr (5, [.ref (a + 1), .ref (a + 2), .null, .null, .int 0]), .inl (0, 16, .inl (fun _ => 0)), .inl (0, 16, .inl (fun _ => 0)), .inl (0, 16, .inl (fun _ => 0))]) (q := 25) h rfl cw_int ⟨rfl, by decide⟩ (fun _ => rfl) (fun _ => rfl) (by decide) (by decide) (by decide) (by omega) (Nat.le_of_ble_eq_true rfl) (Nat.le_of_ble_eq_true rfl) dX3_init_23 rfl rfl ?_
  refine C.putF (q := 28) (fs := [.ref (a + 1), .ref (a + 2), .null, .null, .int 0]) fo_X3_18 (hp_get (q := 0) h rfl) (hp_lt (q := 0) h (Nat.le_of_ble_eq_true rfl)) (Nat.le_of_ble_eq_true rfl) (fun _ => rfl) (fun _ => rfl) (hp_set (q := 0) (ds' := [.inr (5, [.ref (a + 1), .ref (a + 2), .ref (a + 3), .null, .int 0]), .inl (0, 16, .inl (fun _ => 0)), .inl (0, 16, .inl (fun _ => 0)), .inl (0, 16, .inl (fun _ => 0))]) h (Nat.le_of_ble_eq_true rfl) rfl) dX3_init_25 rfl ?_
  refine K.aload_n (q := 29) dX3_init_28 rfl rfl ?_
  refine K.bipush (q := 31) (v := 16) dX3_init_29 rfl (by decide) ?_
  refine K.newaL (atype := .int) (a := a) (b := 4) (t := 0) (N := 16) (x0 := (16, .inl (fun _ => 0))) (ds' := [.inr (5, [.ref (a + 1), .ref (a + 2), .ref (a + 3), .null, .int 0]), .inl (0, 16, .inl (fun _ => 0)), .inl (0, 16, .inl (fun _ => 0)), .inl (0, 16, .inl (fun _ => 0)), .inl (0, 16, .inl (fun _ => 0))]) (q := 33) h rfl cw_int ⟨rfl, by decide⟩ (fun _ => rfl) (fun _ => rfl) (by decide) (by decide) (by decide) (by omega) (Nat.le_of_ble_eq_true rfl) (Nat.le_of_ble_eq_true rfl) dX3_init_31 rfl rfl ?_
  refine C.putF (q := 36) (fs := [.ref (a + 1), .ref (a + 2), .ref (a + 3), .null, .int 0]) fo_X3_21 (hp_get (q := 0) h rfl) (hp_lt (q := 0) h (Nat.le_of_ble_eq_true rfl)) (Nat.le_of_ble_eq_true rfl) (fun _ => rfl) (fun _ => rfl) (hp_set (q := 0) (ds' := [.inr (5, [.ref (a + 1), .ref (a + 2), .ref (a + 3), .ref (a + 4), .int 0]), .inl (0, 16, .inl (fun _ => 0)), .inl (0, 16, .inl (fun _ => 0)), .inl (0, 16, .inl (fun _ => 0)), .inl (0, 16, .inl (fun _ => 0))]) h (Nat.le_of_ble_eq_true rfl) rfl) dX3_init_33 rfl ?_
  refine K.aload_n (q := 37) dX3_init_36 rfl rfl ?_
  refine K.iconst (q := 38) (v := 0) dX3_init_37 rfl (by decide) ?_
  refine K.putf (q := 41) (fs := [.ref (a + 1), .ref (a + 2), .ref (a + 3), .ref (a + 4), .int 0]) fo_X3_24 (hp_get (q := 0) h rfl) (hp_lt (q := 0) h (Nat.le_of_ble_eq_true rfl)) (Nat.le_of_ble_eq_true rfl) (fun _ => rfl) (fun _ => rfl) (hp_set (q := 0) (ds' := [.inr (5, [.ref (a + 1), .ref (a + 2), .ref (a + 3), .ref (a + 4), .int 0]), .inl (0, 16, .inl (fun _ => 0)), .inl (0, 16, .inl (fun _ => 0)), .inl (0, 16, .inl (fun _ => 0)), .inl (0, 16, .inl (fun _ => 0))]) h (Nat.le_of_ble_eq_true rfl) rfl) dX3_init_38 rfl ?_
  exact C.vret rfl rfl rfl (Nat.le_of_ble_eq_true rfl) (Nat.le_of_ble_eq_true rfl) dX3_init_41
theorem s_X6_init {cs : List mC} {a : Nat} (h : cs.length = a) (h9 : a + 3 ≤ 131) : Ct 1 2 12 yX6_init (.code yX6_init cX6_init 1 none) [.ref a] (hp (cs ++ [.inr (8, [.null, .null, .int 0])])) (.inl none) (hp (cs ++ [.inr (8, [.ref (a + 1), .ref (a + 2), .int 0]), .inl (0, 6, .inl (fun _ => 0)), .inl (0, 6, .inl (fun _ => 0))])) := by
  refine Ct.of (LL := [some (.ref a)]) mkX6_init.1 owX6_init rfl (Nat.le_of_ble_eq_true rfl) rfl (fun Wk C => ?_)
  rw [show (yX6_init.name == "<init>") = true by decide] at C
  have K := C.core
  refine K.aload_n (q := 1) dX6_init_0 rfl rfl ?_
  refine K.objInit (q := 4) mw_X6_3 (Nat.le_of_ble_eq_true rfl) (Nat.le_of_ble_eq_true rfl) dX6_init_1 rfl ?_
  refine K.aload_n (q := 5) dX6_init_4 rfl rfl ?_
  refine K.bipush (q := 7) (v := 6) dX6_init_5 rfl (by decide) ?_
  refine K.newaL (atype := .int) (a := a) (b := 1) (t := 0) (N := 6) (x0 := (6, .inl (fun _ => 0))) (ds' := [.inr (8, [.null, .null, .int 0]), .inl (0, 6, .inl (fun _ => 0))]) (q := 9) h rfl cw_int ⟨rfl, by decide⟩ (fun _ => rfl) (fun _ => rfl) (by decide) (by decide) (by decide) (by omega) (Nat.le_of_ble_eq_true rfl) (Nat.le_of_ble_eq_true rfl) dX6_init_7 rfl rfl ?_
  refine C.putF (q := 12) (fs := [.null, .null, .int 0]) fo_X6_9 (hp_get (q := 0) h rfl) (hp_lt (q := 0) h (Nat.le_of_ble_eq_true rfl)) (Nat.le_of_ble_eq_true rfl) (fun _ => rfl) (fun _ => rfl) (hp_set (q := 0) (ds' := [.inr (8, [.ref (a + 1), .null, .int 0]), .inl (0, 6, .inl (fun _ => 0))]) h (Nat.le_of_ble_eq_true rfl) rfl) dX6_init_9 rfl ?_
  refine K.aload_n (q := 13) dX6_init_12 rfl rfl ?_
  refine K.bipush (q := 15) (v := 6) dX6_init_13 rfl (by decide) ?_
  refine K.newaL (atype := .int) (a := a) (b := 2) (t := 0) (N := 6) (x0 := (6, .inl (fun _ => 0))) (ds' := [.inr (8, [.ref (a + 1), .null, .int 0]), .inl (0, 6, .inl (fun _ => 0)), .inl (0, 6, .inl (fun _ => 0))]) (q := 17) h rfl cw_int ⟨rfl, by decide⟩ (fun _ => rfl) (fun _ => rfl) (by decide) (by decide) (by decide) (by omega) (Nat.le_of_ble_eq_true rfl) (Nat.le_of_ble_eq_true rfl) dX6_init_15 rfl rfl ?_
  refine C.putF (q := 20) (fs := [.ref (a + 1), .null, .int 0]) fo_X6_15 (hp_get (q := 0) h rfl) (hp_lt (q := 0) h (Nat.le_of_ble_eq_true rfl)) (Nat.le_of_ble_eq_true rfl) (fun _ => rfl) (fun _ => rfl) (hp_set (q := 0) (ds' := [.inr (8, [.ref (a + 1), .ref (a + 2), .int 0]), .inl (0, 6, .inl (fun _ => 0)), .inl (0, 6, .inl (fun _ => 0))]) h (Nat.le_of_ble_eq_true rfl) rfl) dX6_init_17 rfl ?_
  refine K.aload_n (q := 21) dX6_init_20 rfl rfl ?_
  refine K.iconst (q := 22) (v := 0) dX6_init_21 rfl (by decide) ?_
  refine K.putf (q := 25) (fs := [.ref (a + 1), .ref (a + 2), .int 0]) fo_X6_18 (hp_get (q := 0) h rfl) (hp_lt (q := 0) h (Nat.le_of_ble_eq_true rfl)) (Nat.le_of_ble_eq_true rfl) (fun _ => rfl) (fun _ => rfl) (hp_set (q := 0) (ds' := [.inr (8, [.ref (a + 1), .ref (a + 2), .int 0]), .inl (0, 6, .inl (fun _ => 0)), .inl (0, 6, .inl (fun _ => 0))]) h (Nat.le_of_ble_eq_true rfl) rfl) dX6_init_22 rfl ?_
  exact C.vret rfl rfl rfl (Nat.le_of_ble_eq_true rfl) (Nat.le_of_ble_eq_true rfl) dX6_init_25
theorem s_X0_init {cs : List mC} {a : Nat} (h : cs.length = a) (h9 : a + 11 ≤ 131) : Ct 2 10 152 yX0_init (.code yX0_init cX0_init 1 none) [.ref a] (hp (cs ++ [.inr (2, [.null, .null, .null])])) (.inl none) (hp (cs ++ [.inr (2, [.ref (a + 1), .ref (a + 3), .ref (a + 8)]), .inr (7, [.ref (a + 2), .int 0, .int 0, .int 0]), .inl (0, 64, .inl (up (fun _ => 0) 0 64)), .inr (5, [.ref (a + 4), .ref (a + 5), .ref (a + 6), .ref (a + 7), .int 0]), .inl (0, 16, .inl (fun _ => 0)), .inl (0, 16, .inl (fun _ => 0)), .inl (0, 16, .inl (fun _ => 0)), .inl (0, 16, .inl (fun _ => 0)), .inr (8, [.ref (a + 9), .ref (a + 10), .int 0]), .inl (0, 6, .inl (fun _ => 0)), .inl (0, 6, .inl (fun _ => 0))])) := by
  refine Ct.of (LL := [some (.ref a)]) mkX0_init.1 owX0_init rfl (Nat.le_of_ble_eq_true rfl) rfl (fun Wk C => ?_)
  rw [show (yX0_init.name == "<init>") = true by decide] at C
  have K := C.core
  refine K.aload_n (q := 1) dX0_init_0 rfl rfl ?_
  refine K.objInit (q := 4) mw_X0_3 (Nat.le_of_ble_eq_true rfl) (Nat.le_of_ble_eq_true rfl) dX0_init_1 rfl ?_
  refine K.aload_n (q := 5) dX0_init_4 rfl rfl ?_
  refine K.newL (a := a) (b := 1) (ds' := [.inr (2, [.null, .null, .null]), .inr (7, [.null, .int 0, .int 0, .int 0])]) (q := 8) h rfl co_X5 kw_X0_9 aw_X5 iw_X5 (by omega) (Nat.le_of_ble_eq_true rfl) (Nat.le_of_ble_eq_true rfl) dX0_init_5 rfl rfl ?_
  refine K.dup (q := 9) dX0_init_8 rfl rfl ?_
  have hc9_1 := s_X5_init (cs := cs ++ [.inr (2, [.null, .null, .null])]) (a := a + 1) (by rw [List.length_append, h]; rfl) (by omega)
  rw [List.append_assoc, List.append_assoc] at hc9_1
  refine K.callIv (q := 12) (H' := hp (cs ++ [.inr (2, [.null, .null, .null]), .inr (7, [.ref (a + 2), .int 0, .int 0, .int 0]), .inl (0, 64, .inl (up (fun _ => 0) 0 64))])) mkX5_init mw_X0_11 hc9_1 rfl (Nat.le_of_ble_eq_true rfl) rfl (Nat.le_of_ble_eq_true rfl) (Nat.le_of_ble_eq_true rfl) (Nat.le_of_ble_eq_true rfl) dX0_init_9 rfl ?_
  refine C.putF (q := 15) (fs := [.null, .null, .null]) fo_X0_12 (hp_get (q := 0) h rfl) (hp_lt (q := 0) h (Nat.le_of_ble_eq_true rfl)) (Nat.le_of_ble_eq_true rfl) (fun _ => rfl) (fun _ => rfl) (hp_set (q := 0) (ds' := [.inr (2, [.ref (a + 1), .null, .null]), .inr (7, [.ref (a + 2), .int 0, .int 0, .int 0]), .inl (0, 64, .inl (up (fun _ => 0) 0 64))]) h (Nat.le_of_ble_eq_true rfl) rfl) dX0_init_12 rfl ?_
  refine K.aload_n (q := 16) dX0_init_15 rfl rfl ?_
  refine K.newL (a := a) (b := 3) (ds' := [.inr (2, [.ref (a + 1), .null, .null]), .inr (7, [.ref (a + 2), .int 0, .int 0, .int 0]), .inl (0, 64, .inl (up (fun _ => 0) 0 64)), .inr (5, [.null, .null, .null, .null, .int 0])]) (q := 19) h rfl co_X3 kw_X0_18 aw_X3 iw_X3 (by omega) (Nat.le_of_ble_eq_true rfl) (Nat.le_of_ble_eq_true rfl) dX0_init_16 rfl rfl ?_
  refine K.dup (q := 20) dX0_init_19 rfl rfl ?_
  have hc20_3 := s_X3_init (cs := cs ++ [.inr (2, [.ref (a + 1), .null, .null]), .inr (7, [.ref (a + 2), .int 0, .int 0, .int 0]), .inl (0, 64, .inl (up (fun _ => 0) 0 64))]) (a := a + 3) (by rw [List.length_append, h]; rfl) (by omega)
  rw [List.append_assoc, List.append_assoc] at hc20_3
  refine K.callINv (q := 23) (H' := hp (cs ++ [.inr (2, [.ref (a + 1), .null, .null]), .inr (7, [.ref (a + 2), .int 0, .int 0, .int 0]), .inl (0, 64, .inl (up (fun _ => 0) 0 64)), .inr (5, [.ref (a + 4), .ref (a + 5), .ref (a + 6), .ref (a + 7), .int 0]), .inl (0, 16, .inl (fun _ => 0)), .inl (0, 16, .inl (fun _ => 0)), .inl (0, 16, .inl (fun _ => 0)), .inl (0, 16, .inl (fun _ => 0))])) mkX3_init nw_X0_20 hc20_3 rfl (Nat.le_of_ble_eq_true rfl) rfl (Nat.le_of_ble_eq_true rfl) (Nat.le_of_ble_eq_true rfl) (Nat.le_of_ble_eq_true rfl) dX0_init_20 rfl ?_
  refine C.putF (q := 26) (fs := [.ref (a + 1), .null, .null]) fo_X0_21 (hp_get (q := 0) h rfl) (hp_lt (q := 0) h (Nat.le_of_ble_eq_true rfl)) (Nat.le_of_ble_eq_true rfl) (fun _ => rfl) (fun _ => rfl) (hp_set (q := 0) (ds' := [.inr (2, [.ref (a + 1), .ref (a + 3), .null]), .inr (7, [.ref (a + 2), .int 0, .int 0, .int 0]), .inl (0, 64, .inl (up (fun _ => 0) 0 64)), .inr (5, [.ref (a + 4), .ref (a + 5), .ref (a + 6), .ref (a + 7), .int 0]), .inl (0, 16, .inl (fun _ => 0)), .inl (0, 16, .inl (fun _ => 0)), .inl (0, 16, .inl (fun _ => 0)), .inl (0, 16, .inl (fun _ => 0))]) h (Nat.le_of_ble_eq_true rfl) rfl) dX0_init_23 rfl ?_
  refine K.aload_n (q := 27) dX0_init_26 rfl rfl ?_
  refine K.newL (a := a) (b := 8) (ds' := [.inr (2, [.ref (a + 1), .ref (a + 3), .null]), .inr (7, [.ref (a + 2), .int 0, .int 0, .int 0]), .inl (0, 64, .inl (up (fun _ => 0) 0 64)), .inr (5, [.ref (a + 4), .ref (a + 5), .ref (a + 6), .ref (a + 7), .int 0]), .inl (0, 16, .inl (fun _ => 0)), .inl (0, 16, .inl (fun _ => 0)), .inl (0, 16, .inl (fun _ => 0)), .inl (0, 16, .inl (fun _ => 0)), .inr (8, [.null, .null, .int 0])]) (q := 30) h rfl co_X6 kw_X0_25 aw_X6 iw_X6 (by omega) (Nat.le_of_ble_eq_true rfl) (Nat.le_of_ble_eq_true rfl) dX0_init_27 rfl rfl ?_
  refine K.dup (q := 31) dX0_init_30 rfl rfl ?_
  have hc31_8 := s_X6_init (cs := cs ++ [.inr (2, [.ref (a + 1), .ref (a + 3), .null]), .inr (7, [.ref (a + 2), .int 0, .int 0, .int 0]), .inl (0, 64, .inl (up (fun _ => 0) 0 64)), .inr (5, [.ref (a + 4), .ref (a + 5), .ref (a + 6), .ref (a + 7), .int 0]), .inl (0, 16, .inl (fun _ => 0)), .inl (0, 16, .inl (fun _ => 0)), .inl (0, 16, .inl (fun _ => 0)), .inl (0, 16, .inl (fun _ => 0))]) (a := a + 8) (by rw [List.length_append, h]; rfl) (by omega)
  rw [List.append_assoc, List.append_assoc] at hc31_8
  refine K.callINv (q := 34) (H' := hp (cs ++ [.inr (2, [.ref (a + 1), .ref (a + 3), .null]), .inr (7, [.ref (a + 2), .int 0, .int 0, .int 0]), .inl (0, 64, .inl (up (fun _ => 0) 0 64)), .inr (5, [.ref (a + 4), .ref (a + 5), .ref (a + 6), .ref (a + 7), .int 0]), .inl (0, 16, .inl (fun _ => 0)), .inl (0, 16, .inl (fun _ => 0)), .inl (0, 16, .inl (fun _ => 0)), .inl (0, 16, .inl (fun _ => 0)), .inr (8, [.ref (a + 9), .ref (a + 10), .int 0]), .inl (0, 6, .inl (fun _ => 0)), .inl (0, 6, .inl (fun _ => 0))])) mkX6_init nw_X0_27 hc31_8 rfl (Nat.le_of_ble_eq_true rfl) rfl (Nat.le_of_ble_eq_true rfl) (Nat.le_of_ble_eq_true rfl) (Nat.le_of_ble_eq_true rfl) dX0_init_31 rfl ?_
  refine C.putF (q := 37) (fs := [.ref (a + 1), .ref (a + 3), .null]) fo_X0_28 (hp_get (q := 0) h rfl) (hp_lt (q := 0) h (Nat.le_of_ble_eq_true rfl)) (Nat.le_of_ble_eq_true rfl) (fun _ => rfl) (fun _ => rfl) (hp_set (q := 0) (ds' := [.inr (2, [.ref (a + 1), .ref (a + 3), .ref (a + 8)]), .inr (7, [.ref (a + 2), .int 0, .int 0, .int 0]), .inl (0, 64, .inl (up (fun _ => 0) 0 64)), .inr (5, [.ref (a + 4), .ref (a + 5), .ref (a + 6), .ref (a + 7), .int 0]), .inl (0, 16, .inl (fun _ => 0)), .inl (0, 16, .inl (fun _ => 0)), .inl (0, 16, .inl (fun _ => 0)), .inl (0, 16, .inl (fun _ => 0)), .inr (8, [.ref (a + 9), .ref (a + 10), .int 0]), .inl (0, 6, .inl (fun _ => 0)), .inl (0, 6, .inl (fun _ => 0))]) h (Nat.le_of_ble_eq_true rfl) rfl) dX0_init_34 rfl ?_
  exact C.vret rfl rfl rfl (Nat.le_of_ble_eq_true rfl) (Nat.le_of_ble_eq_true rfl) dX0_init_37
theorem s_X2_init {cs : List mC} {a : Nat} (h : cs.length = a) (h9 : a + 2 ≤ 131) : Ct 1 1 384 yX2_init (.code yX2_init cX2_init 1 none) [.ref a] (hp (cs ++ [.inr (4, [.null, .int 0])])) (.inl none) (hp (cs ++ [.inr (4, [.ref (a + 1), .int 0]), .inl (1, 384, .inl (fun _ => 0))])) := by
  refine Ct.of (LL := [some (.ref a)]) mkX2_init.1 owX2_init rfl (Nat.le_of_ble_eq_true rfl) rfl (fun Wk C => ?_)
  rw [show (yX2_init.name == "<init>") = true by decide] at C
  have K := C.core
  refine K.aload_n (q := 1) dX2_init_0 rfl rfl ?_
  refine K.objInit (q := 4) mw_X2_3 (Nat.le_of_ble_eq_true rfl) (Nat.le_of_ble_eq_true rfl) dX2_init_1 rfl ?_
  refine K.aload_n (q := 5) dX2_init_4 rfl rfl ?_
  refine K.sipush (q := 8) (v := 384) dX2_init_5 rfl (by decide) ?_
  refine K.newaL (atype := .char) (a := a) (b := 1) (t := 1) (N := 384) (x0 := (384, .inl (fun _ => 0))) (ds' := [.inr (4, [.null, .int 0]), .inl (1, 384, .inl (fun _ => 0))]) (q := 10) h rfl cw_char ⟨rfl, by decide⟩ (fun _ => rfl) (fun _ => rfl) (by decide) (by decide) (by decide) (by omega) (Nat.le_of_ble_eq_true rfl) (Nat.le_of_ble_eq_true rfl) dX2_init_8 rfl rfl ?_
  refine C.putF (q := 13) (fs := [.null, .int 0]) fo_X2_9 (hp_get (q := 0) h rfl) (hp_lt (q := 0) h (Nat.le_of_ble_eq_true rfl)) (Nat.le_of_ble_eq_true rfl) (fun _ => rfl) (fun _ => rfl) (hp_set (q := 0) (ds' := [.inr (4, [.ref (a + 1), .int 0]), .inl (1, 384, .inl (fun _ => 0))]) h (Nat.le_of_ble_eq_true rfl) rfl) dX2_init_10 rfl ?_
  refine K.aload_n (q := 14) dX2_init_13 rfl rfl ?_
  refine K.iconst (q := 15) (v := 0) dX2_init_14 rfl (by decide) ?_
  refine K.putf (q := 18) (fs := [.ref (a + 1), .int 0]) fo_X2_15 (hp_get (q := 0) h rfl) (hp_lt (q := 0) h (Nat.le_of_ble_eq_true rfl)) (Nat.le_of_ble_eq_true rfl) (fun _ => rfl) (fun _ => rfl) (hp_set (q := 0) (ds' := [.inr (4, [.ref (a + 1), .int 0]), .inl (1, 384, .inl (fun _ => 0))]) h (Nat.le_of_ble_eq_true rfl) rfl) dX2_init_15 rfl ?_
  exact C.vret rfl rfl rfl (Nat.le_of_ble_eq_true rfl) (Nat.le_of_ble_eq_true rfl) dX2_init_18
theorem s_X4_init {cs : List mC} {a : Nat} (h : cs.length = a) (h9 : a + 5 ≤ 131) : Ct 1 4 120 yX4_init (.code yX4_init cX4_init 1 none) [.ref a] (hp (cs ++ [.inr (6, [.null, .null, .null, .int 0, .null, .int 0, .int 0, .int 0])])) (.inl none) (hp (cs ++ [.inr (6, [.ref (a + 1), .ref (a + 2), .ref (a + 3), .int 0, .ref (a + 4), .int 0, .int 0, .int 0]), .inl (0, 20, .inl (fun _ => 0)), .inl (0, 20, .inl (fun _ => 0)), .inl (0, 20, .inl (fun _ => 0)), .inl (1, 60, .inl (fun _ => 0))])) := by
  refine Ct.of (LL := [some (.ref a)]) mkX4_init.1 owX4_init rfl (Nat.le_of_ble_eq_true rfl) rfl (fun Wk C => ?_)
  rw [show (yX4_init.name == "<init>") = true by decide] at C
  have K := C.core
  refine K.aload_n (q := 1) dX4_init_0 rfl rfl ?_
  refine K.objInit (q := 4) mw_X4_3 (Nat.le_of_ble_eq_true rfl) (Nat.le_of_ble_eq_true rfl) dX4_init_1 rfl ?_
  refine K.aload_n (q := 5) dX4_init_4 rfl rfl ?_
  refine K.bipush (q := 7) (v := 20) dX4_init_5 rfl (by decide) ?_
  refine K.newaL (atype := .int) (a := a) (b := 1) (t := 0) (N := 20) (x0 := (20, .inl (fun _ => 0))) (ds' := [.inr (6, [.null, .null, .null, .int 0, .null, .int 0, .int 0, .int 0]), .inl (0, 20, .inl (fun _ => 0))]) (q := 9) h rfl cw_int ⟨rfl, by decide⟩ (fun _ => rfl) (fun _ => rfl) (by decide) (by decide) (by decide) (by omega) (Nat.le_of_ble_eq_true rfl) (Nat.le_of_ble_eq_true rfl) dX4_init_7 rfl rfl ?_
  refine C.putF (q := 12) (fs := [.null, .null, .null, .int 0, .null, .int 0, .int 0, .int 0]) fo_X4_9 (hp_get (q := 0) h rfl) (hp_lt (q := 0) h (Nat.le_of_ble_eq_true rfl)) (Nat.le_of_ble_eq_true rfl) (fun _ => rfl) (fun _ => rfl) (hp_set (q := 0) (ds' := [.inr (6, [.ref (a + 1), .null, .null, .int 0, .null, .int 0, .int 0, .int 0]), .inl (0, 20, .inl (fun _ => 0))]) h (Nat.le_of_ble_eq_true rfl) rfl) dX4_init_9 rfl ?_
  refine K.aload_n (q := 13) dX4_init_12 rfl rfl ?_
  refine K.bipush (q := 15) (v := 20) dX4_init_13 rfl (by decide) ?_
  refine K.newaL (atype := .int) (a := a) (b := 2) (t := 0) (N := 20) (x0 := (20, .inl (fun _ => 0))) (ds' := [.inr (6, [.ref (a + 1), .null, .null, .int 0, .null, .int 0, .int 0, .int 0]), .inl (0, 20, .inl (fun _ => 0)), .inl (0, 20, .inl (fun _ => 0))]) (q := 17) h rfl cw_int ⟨rfl, by decide⟩ (fun _ => rfl) (fun _ => rfl) (by decide) (by decide) (by decide) (by omega) (Nat.le_of_ble_eq_true rfl) (Nat.le_of_ble_eq_true rfl) dX4_init_15 rfl rfl ?_
  refine C.putF (q := 20) (fs := [.ref (a + 1), .null, .null, .int 0, .null, .int 0, .int 0, .int 0]) fo_X4_15 (hp_get (q := 0) h rfl) (hp_lt (q := 0) h (Nat.le_of_ble_eq_true rfl)) (Nat.le_of_ble_eq_true rfl) (fun _ => rfl) (fun _ => rfl) (hp_set (q := 0) (ds' := [.inr (6, [.ref (a + 1), .ref (a + 2), .null, .int 0, .null, .int 0, .int 0, .int 0]), .inl (0, 20, .inl (fun _ => 0)), .inl (0, 20, .inl (fun _ => 0))]) h (Nat.le_of_ble_eq_true rfl) rfl) dX4_init_17 rfl ?_
  refine K.aload_n (q := 21) dX4_init_20 rfl rfl ?_
  refine K.bipush (q := 23) (v := 20) dX4_init_21 rfl (by decide) ?_
  refine K.newaL (atype := .int) (a := a) (b := 3) (t := 0) (N := 20) (x0 := (20, .inl (fun _ => 0))) (ds' := [.inr (6, [.ref (a + 1), .ref (a + 2), .null, .int 0, .null, .int 0, .int 0, .int 0]), .inl (0, 20, .inl (fun _ => 0)), .inl (0, 20, .inl (fun _ => 0)), .inl (0, 20, .inl (fun _ => 0))]) (q := 25) h rfl cw_int ⟨rfl, by decide⟩ (fun _ => rfl) (fun _ => rfl) (by decide) (by decide) (by decide) (by omega) (Nat.le_of_ble_eq_true rfl) (Nat.le_of_ble_eq_true rfl) dX4_init_23 rfl rfl ?_
  refine C.putF (q := 28) (fs := [.ref (a + 1), .ref (a + 2), .null, .int 0, .null, .int 0, .int 0, .int 0]) fo_X4_18 (hp_get (q := 0) h rfl) (hp_lt (q := 0) h (Nat.le_of_ble_eq_true rfl)) (Nat.le_of_ble_eq_true rfl) (fun _ => rfl) (fun _ => rfl) (hp_set (q := 0) (ds' := [.inr (6, [.ref (a + 1), .ref (a + 2), .ref (a + 3), .int 0, .null, .int 0, .int 0, .int 0]), .inl (0, 20, .inl (fun _ => 0)), .inl (0, 20, .inl (fun _ => 0)), .inl (0, 20, .inl (fun _ => 0))]) h (Nat.le_of_ble_eq_true rfl) rfl) dX4_init_25 rfl ?_
  refine K.aload_n (q := 29) dX4_init_28 rfl rfl ?_
  refine K.iconst (q := 30) (v := 0) dX4_init_29 rfl (by decide) ?_
  refine K.putf (q := 33) (fs := [.ref (a + 1), .ref (a + 2), .ref (a + 3), .int 0, .null, .int 0, .int 0, .int 0]) fo_X4_21 (hp_get (q := 0) h rfl) (hp_lt (q := 0) h (Nat.le_of_ble_eq_true rfl)) (Nat.le_of_ble_eq_true rfl) (fun _ => rfl) (fun _ => rfl) (hp_set (q := 0) (ds' := [.inr (6, [.ref (a + 1), .ref (a + 2), .ref (a + 3), .int 0, .null, .int 0, .int 0, .int 0]), .inl (0, 20, .inl (fun _ => 0)), .inl (0, 20, .inl (fun _ => 0)), .inl (0, 20, .inl (fun _ => 0))]) h (Nat.le_of_ble_eq_true rfl) rfl) dX4_init_30 rfl ?_
  refine K.aload_n (q := 34) dX4_init_33 rfl rfl ?_
  refine K.bipush (q := 36) (v := 60) dX4_init_34 rfl (by decide) ?_
  refine K.newaL (atype := .char) (a := a) (b := 4) (t := 1) (N := 60) (x0 := (60, .inl (fun _ => 0))) (ds' := [.inr (6, [.ref (a + 1), .ref (a + 2), .ref (a + 3), .int 0, .null, .int 0, .int 0, .int 0]), .inl (0, 20, .inl (fun _ => 0)), .inl (0, 20, .inl (fun _ => 0)), .inl (0, 20, .inl (fun _ => 0)), .inl (1, 60, .inl (fun _ => 0))]) (q := 38) h rfl cw_char ⟨rfl, by decide⟩ (fun _ => rfl) (fun _ => rfl) (by decide) (by decide) (by decide) (by omega) (Nat.le_of_ble_eq_true rfl) (Nat.le_of_ble_eq_true rfl) dX4_init_36 rfl rfl ?_
  refine C.putF (q := 41) (fs := [.ref (a + 1), .ref (a + 2), .ref (a + 3), .int 0, .null, .int 0, .int 0, .int 0]) fo_X4_25 (hp_get (q := 0) h rfl) (hp_lt (q := 0) h (Nat.le_of_ble_eq_true rfl)) (Nat.le_of_ble_eq_true rfl) (fun _ => rfl) (fun _ => rfl) (hp_set (q := 0) (ds' := [.inr (6, [.ref (a + 1), .ref (a + 2), .ref (a + 3), .int 0, .ref (a + 4), .int 0, .int 0, .int 0]), .inl (0, 20, .inl (fun _ => 0)), .inl (0, 20, .inl (fun _ => 0)), .inl (0, 20, .inl (fun _ => 0)), .inl (1, 60, .inl (fun _ => 0))]) h (Nat.le_of_ble_eq_true rfl) rfl) dX4_init_38 rfl ?_
  refine K.aload_n (q := 42) dX4_init_41 rfl rfl ?_
  refine K.iconst (q := 43) (v := 0) dX4_init_42 rfl (by decide) ?_
  refine K.putf (q := 46) (fs := [.ref (a + 1), .ref (a + 2), .ref (a + 3), .int 0, .ref (a + 4), .int 0, .int 0, .int 0]) fo_X4_29 (hp_get (q := 0) h rfl) (hp_lt (q := 0) h (Nat.le_of_ble_eq_true rfl)) (Nat.le_of_ble_eq_true rfl) (fun _ => rfl) (fun _ => rfl) (hp_set (q := 0) (ds' := [.inr (6, [.ref (a + 1), .ref (a + 2), .ref (a + 3), .int 0, .ref (a + 4), .int 0, .int 0, .int 0]), .inl (0, 20, .inl (fun _ => 0)), .inl (0, 20, .inl (fun _ => 0)), .inl (0, 20, .inl (fun _ => 0)), .inl (1, 60, .inl (fun _ => 0))]) h (Nat.le_of_ble_eq_true rfl) rfl) dX4_init_43 rfl ?_
  refine K.aload_n (q := 47) dX4_init_46 rfl rfl ?_
  refine K.iconst (q := 48) (v := 0) dX4_init_47 rfl (by decide) ?_
  refine K.putf (q := 51) (fs := [.ref (a + 1), .ref (a + 2), .ref (a + 3), .int 0, .ref (a + 4), .int 0, .int 0, .int 0]) fo_X4_32 (hp_get (q := 0) h rfl) (hp_lt (q := 0) h (Nat.le_of_ble_eq_true rfl)) (Nat.le_of_ble_eq_true rfl) (fun _ => rfl) (fun _ => rfl) (hp_set (q := 0) (ds' := [.inr (6, [.ref (a + 1), .ref (a + 2), .ref (a + 3), .int 0, .ref (a + 4), .int 0, .int 0, .int 0]), .inl (0, 20, .inl (fun _ => 0)), .inl (0, 20, .inl (fun _ => 0)), .inl (0, 20, .inl (fun _ => 0)), .inl (1, 60, .inl (fun _ => 0))]) h (Nat.le_of_ble_eq_true rfl) rfl) dX4_init_48 rfl ?_
  refine K.aload_n (q := 52) dX4_init_51 rfl rfl ?_
  refine K.iconst (q := 53) (v := 0) dX4_init_52 rfl (by decide) ?_
  refine K.putf (q := 56) (fs := [.ref (a + 1), .ref (a + 2), .ref (a + 3), .int 0, .ref (a + 4), .int 0, .int 0, .int 0]) fo_X4_35 (hp_get (q := 0) h rfl) (hp_lt (q := 0) h (Nat.le_of_ble_eq_true rfl)) (Nat.le_of_ble_eq_true rfl) (fun _ => rfl) (fun _ => rfl) (hp_set (q := 0) (ds' := [.inr (6, [.ref (a + 1), .ref (a + 2), .ref (a + 3), .int 0, .ref (a + 4), .int 0, .int 0, .int 0]), .inl (0, 20, .inl (fun _ => 0)), .inl (0, 20, .inl (fun _ => 0)), .inl (0, 20, .inl (fun _ => 0)), .inl (1, 60, .inl (fun _ => 0))]) h (Nat.le_of_ble_eq_true rfl) rfl) dX4_init_53 rfl ?_
  exact C.vret rfl rfl rfl (Nat.le_of_ble_eq_true rfl) (Nat.le_of_ble_eq_true rfl) dX4_init_56