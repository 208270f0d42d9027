/-! ===== p36: the law's texts that are built ===== -/
theorem goW {Wk : lW} {k n pc : Nat} {L : List (Option Value)} {S : List Value} {ws ws' : WL} (h : ws = ws') (kk : Wk k n pc L S ws') : Wk k n pc L S ws := by rw [h]; exact kk
theorem unF0 : unF [] := fun _ h => absurd h List.not_mem_nil
theorem unFc {a : Nat} {X : GS} {ws : WL} (h : unF ws) : unF ((a, mkH X) :: ws) := fun q hq => by
  rcases List.mem_cons.mp hq with rfl | h1
  · rfl
  · exact h q h1
theorem unFf {a N : Nat} {f : Nat → mC} {ws : WL} (h : unF ws) : unF ((a, (false, N, f)) :: ws) := fun q hq => by
  rcases List.mem_cons.mp hq with rfl | h1
  · rfl
  · exact h q h1
theorem fixI (xs : List Int32) : fixV (xs.map Value.int) := fun g g' => by
  rw [List.map_map, List.map_map]; rfl
theorem fix0 : fixV [] := fun _ _ => rfl
theorem fix1 (x : Int32) : fixV [.int x] := fun _ _ => rfl
theorem fix2 (x y : Int32) : fixV [.int x, .int y] := fun _ _ => rfl
theorem fixR (a : Nat) : fixV [.ref (a + 1000)] := fun g g' => by simp only [List.map, rv_out]
theorem fixIR (x : Int32) (a : Nat) : fixV [.int x, .ref (a + 1000)] := fun g g' => by simp only [List.map, rv_out]; rfl
theorem fixRI (x : Int32) (a : Nat) : fixV [.ref (a + 1000), .int x] := fun g g' => by simp only [List.map, rv_out]; rfl
theorem fixF (x : UInt32) : fixV [.float x] := fun _ _ => rfl
theorem fixD (x : UInt64) : fixV [.double x] := fun _ _ => rfl
theorem prD_G {t1 t2 : Nat} : PrD (PrG t1 t2) t1 t2 := ⟨prG_ok, fun _ _ h => h.1, fun _ _ h => h.2.1, fun _ _ h => h.2.2.1, fun _ _ h => h.2.2.2.1, fun _ _ h => h.2.2.2.2.1⟩
section
variable {T : TxT} {F : FxT} {cc : ByteArray} {nL d kc ks : Nat} {Wk : lW} {k n pc : Nat} {L : List (Option Value)} {S : List Value} {ws : WL} {pre : List mC} {m B : Nat} {t : List Int32}
/-- new StringBuilder() -/
theorem CoL.sbNew (C : CoL T F RL cc nL d kc ks Wk) (hu : unF ws) (hd : 3 ≤ d) (hS : (S.map fun v => v.category).sum ≤ 6) (hk : k + 2 ≤ kc) (hn : n + 20 ≤ ks) (g1 : decode cc pc = .ok (.new 143, 3)) (g2 : decode cc (pc + 3) = .ok (.dup, 1)) (g3 : decode cc (pc + 4) = .ok (.invokespecial 145, 3))
    (kk : ∀ B : Nat, Wk (k + 2) (n + 20) (pc + 7) L (.ref (B + 1000) :: S) (ws ++ [(B, bt [] 16 [])])) : Wk k n pc L S ws := by
  refine C.new co_J4 hu kw_L_143 aw_J4 iw_J4 (by omega) (by omega) g1 rfl (fun B => ?_)
  refine C.dup g2 rfl rfl ?_
  exact C.tI (Pr := PrG F.2.2.2.1 F.2.2.2.2) (av := []) (S := .ref (B + 1000) :: S) (H' := bt [] 16 []) prG_ok src_G hu bt_l0 mkJ4_init_da8c8 mw_L_145 (b4_ini prG_ok (fun _ _ h => h.1)) fix0 rfl hd rfl (by simp only [List.map_cons, List.sum_cons]; show 1 + _ ≤ 8; omega) (by omega) (by omega) g3 rfl (kk B)
/-- a constant text is appended -/
theorem CoL.sbStr (C : CoL T F RL cc nL d kc ks Wk) {idx : Nat} {tx : String} (hq : (idx, tx) ∈ lwS) (hu : unF ws) (hd : 6 ≤ d) (hS : (S.map fun v => v.category).sum ≤ 8) (hk : k ≤ kc) (hn : n ≤ ks) (hok : okT (cds tx)) (hl : pre.length + 2 ≤ 131) (hm : m < 1073741824) (hle : t.length + (cds tx).length ≤ m)
    (g1 : decode cc pc = .ok (.ldc idx, 2)) (g2 : decode cc (pc + 2) = .ok (.invokevirtual 148, 3))
    (kk : Wk k n (pc + 5) L (.ref (B + 1000) :: S) (ws ++ [(B, bt pre m (t ++ cds tx))])) : Wk k n pc L (.ref (B + 1000) :: S) (ws ++ [(B, bt pre m t)]) := by
  refine C.ldcs hq g1 rfl (fun sa sd C => ?_)
  exact C.tV (Pr := PrS sa sd (cds tx)) (av := [.ref (sa + 1000)]) (S := S) (j := 0) prS_ok (src_S (q := (sa, sd, cds tx)) List.mem_cons_self) hu bt_l0 bt_l0 (by decide) mkJ4_append_15ec4 mw_L_148 (b4_aps (fun _ _ h => h) prS_ok hok hl hle hm (b5_ens0 (mc := 0) (ms := 0) bt_0 bt_l0 bt_i bt_li hle hm)) bt_0 (fixR sa) rfl hd rfl hS (by omega) (by omega) g2 rfl kk
/-- ... and the builder grows -/
theorem CoL.sbStr1 (C : CoL T F RL cc nL d kc ks Wk) {idx : Nat} {tx : String} (hq : (idx, tx) ∈ lwS) (hu : unF ws) (hd : 6 ≤ d) (hS : (S.map fun v => v.category).sum ≤ 8) (hk : k + 1 ≤ kc) (hn : n + 34 ≤ ks) (hok : okT (cds tx)) (hot : okT t) (h16 : t.length ≤ 16) (hgt : 16 < t.length + (cds tx).length) (hle : t.length + (cds tx).length ≤ 34)
    (g1 : decode cc pc = .ok (.ldc idx, 2)) (g2 : decode cc (pc + 2) = .ok (.invokevirtual 148, 3))
    (kk : Wk (k + 1) (n + 34) (pc + 5) L (.ref (B + 1000) :: S) (ws ++ [(B, bt [arB 16 (ft t)] 34 (t ++ cds tx))])) : Wk k n pc L (.ref (B + 1000) :: S) (ws ++ [(B, bt [] 16 t)]) := by
  refine C.ldcs hq g1 rfl (fun sa sd C => ?_)
  exact C.tV (Pr := PrS sa sd (cds tx)) (av := [.ref (sa + 1000)]) (S := S) (j := 0) prS_ok (src_S (q := (sa, sd, cds tx)) List.mem_cons_self) hu bt_l0 bt_l0 (by decide) mkJ4_append_15ec4 mw_L_148 (b4_aps (pre := [arB 16 (ft t)]) (m := 34) (fun _ _ h => h) prS_ok hok (Nat.le_of_ble_eq_true rfl) hle (by decide) (b5_ens1 prS_ok hgt hle h16 hot)) bt_0 (fixR sa) rfl hd rfl hS hk hn g2 rfl kk
/-- a number is appended -/
theorem CoL.sbInt (C : CoL T F RL cc nL d kc ks Wk) {v : Nat} (hv : v < 100) (hu : unF ws) (hd : 6 ≤ d) (hS : (S.map fun v => v.category).sum ≤ 8) (hk : k ≤ kc) (hn : n ≤ ks) (hl : pre.length + 2 ≤ 131) (hm : m < 1073741824) (hle : t.length + dgn v ≤ m)
    (g2 : decode cc pc = .ok (.invokevirtual 151, 3))
    (kk : Wk k n (pc + 3) L (.ref (B + 1000) :: S) (ws ++ [(B, bt pre m (t ++ dgs v))])) : Wk k n pc L (.int (nI v) :: .ref (B + 1000) :: S) (ws ++ [(B, bt pre m t)]) :=
  C.tV (Pr := PrG F.2.2.2.1 F.2.2.2.2) (av := [.int (nI v)]) (S := S) (j := 0) prG_ok src_G hu bt_l0 bt_l0 (by decide) mkJ4_append_bf812 mw_L_151 (b4_api prD_G hv hl hle hm) bt_0 (fix1 _) rfl hd rfl hS (by omega) (by omega) g2 rfl kk
/-- the builder's text -/
theorem CoL.sbEnd (C : CoL T F RL cc nL d kc ks Wk) (hu : unF ws) (hd : 7 ≤ d) (hS : (S.map fun v => v.category).sum ≤ 8) (hk : k + 2 ≤ kc) (hn : n + 40 ≤ ks) (hl : pre.length + 4 ≤ 131) (hm : m < 10000) (hlt : t.length < m) (h36 : t.length ≤ 36) (hot : okT t)
    (g2 : decode cc pc = .ok (.invokevirtual 156, 3))
    (kk : Wk (k + 2) (n + 40) (pc + 3) L (.ref (B + (pre.length + 2) + 1000) :: S) (ws ++ [(B, (false, (bs pre m t).length + 2, (hp (bs pre m t ++ [stO (pre.length + 3), arB t.length (ft t)])).2.2))])) : Wk k n pc L (.ref (B + 1000) :: S) (ws ++ [(B, bt pre m t)]) := by
  refine C.tV (Pr := PrG F.2.2.2.1 F.2.2.2.2) (av := []) (S := S) (H' := hp (bs pre m t ++ [stO (pre.length + 3), arB t.length (ft t)])) prG_ok src_G hu (Nat.succ_pos _) bt_l0 (by omega) mkJ4_toString_0e30d mw_L_156 (b4_str prG_ok (fun _ _ h => h.1) hl hlt hm hot) bt_0 fix0 rfl hd rfl hS (by omega) (by omega) g2 rfl ?_
  refine goW (ws' := ws ++ [(B, (true, (bs pre m t).length + 2, (hp (bs pre m t ++ [stO (pre.length + 3), arB t.length (ft t)])).2.2))]) ?_ ?_
  · show ws ++ [(B, (true, (bs pre m t ++ [stO (pre.length + 3), arB t.length (ft t)]).length, _))] = _
    rw [List.length_append]; rfl
  · exact C.uf (C.wd (by omega) (by omega) kk)
end
