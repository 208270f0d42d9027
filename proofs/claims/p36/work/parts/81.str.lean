/-! ===== p36: a text outside (Latin-1), and the JDK's methods that read it ===== -/
def PrS (sa sd : Nat) (tx : List Int32) : PrT := fun g U =>
  va_O RJ0 sa (aD g) U U.heap ∧ va_OF "java/lang/String" "coder" "B" (.int 0) sa (aD g) U U.heap ∧ va_OF "java/lang/String" "value" "[B" (.ref sd) sa (aD g) U U.heap ∧ va_T .byte sd tx.length (fun j => .int (tx.getD j 0)) (aD g) U U.heap ∧
  va_Z "java/lang/String" "COMPACT_STRINGS" "Z" (.int 1) (aD g) U U.heap ∧ va_Zq "jdk/internal/util/Preconditions" "SIOOBE_FORMATTER" "Ljava/util/function/BiFunction;" (aD g) U U.heap
theorem prS_ok {sa sd : Nat} {tx : List Int32} : prOk (PrS sa sd tx) := by
  intro g U U' h hal hk
  obtain ⟨h1, h2, h3, h4, h5, h6⟩ := h
  have hq : ∀ a : Nat, a < U.heap.size → ¬ aD g a → U'.heap[a]? = U.heap[a]? := hk
  exact ⟨va_O.moved hal (h1.kept hq), va_OF.moved hal (h2.kept hq), va_OF.moved hal (h3.kept hq), va_T.moved hal (h4.kept hq), va_Z.moved hal (h5.kept hq), va_Zq.moved hal (h6.kept hq)⟩
section
variable {Pr : PrT} {own : String} {cc : ByteArray} {nL d kc ks : Nat} {Wk : tW} {k n pc q : Nat} {L : List (Option Value)} {S : List Value} {H : aH}
theorem CoG.getO (C : CoG Pr own cc nL d kc ks Wk) {o fn fd : String} {idx a : Nat} {v0 v : Value} (hO : ∀ g s, Pr g s → va_OF o fn fd v0 a (aD g) s s.heap) (hv : ∀ g, rv g v = v0) (hw : wok (.fieldLink own idx o fn fd)) (dg : decode cc pc = .ok (.getfield idx, 3)) (hq : pc + 3 = q) (kk : Wk k n q L (v :: S) H) : Wk k n pc L (.ref (a + 1000) :: S) H := by
  obtain ⟨p, l, e, R, s, m, args, below, meth, c, Q, g, ca, D, sL, X, hPr, rfl⟩ := C
  subst hq
  intro Hr locs ls hN hS hl
  show W _ _ _ _ _ _ _ _ _ _ _ _ _ _ _ (F0 m pc ls (.ref (ra g (a + 1000)) :: S.map (rv g)))
  rw [ra_out]
  have h := kk Hr locs ls hN hS hl
  rw [List.map_cons, hv g] at h
  exact vk_getf X.exec X.code (hO g s hPr) hS X.ow (X.word hw args) (fun _ h => h) dg h
theorem CoG.gets (C : CoG Pr own cc nL d kc ks Wk) {o fn fd : String} {idx : Nat} {v0 v : Value} (hO : ∀ g s, Pr g s → va_Z o fn fd v0 (aD g) s s.heap) (hv : ∀ g, rv g v = v0) (hw : wok (.fieldLink own idx o fn fd)) (dg : decode cc pc = .ok (.getstatic idx, 3)) (hq : pc + 3 = q) (kk : Wk k n q L (v :: S) H) : Wk k n pc L S H := by
  obtain ⟨p, l, e, R, s, m, args, below, meth, c, Q, g, ca, D, sL, X, hPr, rfl⟩ := C
  subst hq
  intro Hr locs ls hN hS hl
  have h := kk Hr locs ls hN hS hl
  rw [List.map_cons, hv g] at h
  exact va_gets X.exec X.code (hO g s hPr) hS X.ow (X.word hw args) (fun _ h => h) dg h
theorem CoG.getsq (C : CoG Pr own cc nL d kc ks Wk) {o fn fd : String} {idx : Nat} (hO : ∀ g s, Pr g s → va_Zq o fn fd (aD g) s s.heap) (hw : wok (.fieldLink own idx o fn fd)) (dg : decode cc pc = .ok (.getstatic idx, 3)) (hq : pc + 3 = q) (kk : ∀ v : Value, v.category = 1 → Wk k n q L (v :: S) H) : Wk k n pc L S H := by
  obtain ⟨p, l, e, R, s, m, args, below, meth, c, Q, g, ca, D, sL, X, hPr, rfl⟩ := C
  subst hq
  intro Hr locs ls hN hS hl
  rcases hO g s hPr with h | ⟨t, h⟩
  · exact va_gets X.exec X.code h hS X.ow (X.word hw args) (fun _ h => h) dg (kk .null rfl Hr locs ls hN hS hl)
  · have h2 := kk (.ref (t + 1000)) rfl Hr locs ls hN hS hl
    rw [List.map_cons, show rv g (.ref (t + 1000)) = .ref t from congrArg Value.ref ra_out] at h2
    exact va_gets X.exec X.code h hS X.ow (X.word hw args) (fun _ h => h) dg h2
theorem CoG.balO (C : CoG Pr own cc nL d kc ks Wk) {a N j : Nat} {f : Nat → Int32} (hO : ∀ g s, Pr g s → va_T .byte a N (fun j => .int (f j)) (aD g) s s.heap) (hj : j < N) (hN31 : N < 2147483648) (dg : decode cc pc = .ok (.baload, 1)) (hq : pc + 1 = q) (kk : Wk k n q L (.int (f j) :: S) H) : Wk k n pc L (.int (nI j) :: .ref (a + 1000) :: S) H := by
  obtain ⟨p, l, e, R, s, m, args, below, meth, c, Q, g, ca, D, sL, X, hPr, rfl⟩ := C
  subst hq
  intro Hr locs ls hN hS hl
  show W _ _ _ _ _ _ _ _ _ _ _ _ _ _ _ (F0 m pc ls (.int (nI j) :: .ref (ra g (a + 1000)) :: S.map (rv g)))
  rw [ra_out]
  exact va_tb X.exec X.code (hO g s hPr) hS (vp_in_nI hj hN31) (v := .int (f j)) (by show Value.int (f (nI j).toNatClampNeg) = _; rw [nI_clamp (by omega)]) dg (kk Hr locs ls hN hS hl)
theorem CoG.alnO (C : CoG Pr own cc nL d kc ks Wk) {a N : Nat} {f : Nat → Value} (hO : ∀ g s, Pr g s → va_T .byte a N f (aD g) s s.heap) (dg : decode cc pc = .ok (.arraylength, 1)) (hq : pc + 1 = q) (kk : Wk k n q L (.int (nI N) :: S) H) : Wk k n pc L (.ref (a + 1000) :: S) H := by
  obtain ⟨p, l, e, R, s, m, args, below, meth, c, Q, g, ca, D, sL, X, hPr, rfl⟩ := C
  subst hq
  intro Hr locs ls hN hS hl
  show W _ _ _ _ _ _ _ _ _ _ _ _ _ _ _ (F0 m pc ls (.ref (ra g (a + 1000)) :: S.map (rv g)))
  rw [ra_out]
  exact va_tlen X.exec X.code (hO g s hPr) hS rfl dg (kk Hr locs ls hN hS hl)
theorem Core.aload_nV (C : Core own cc nL d kc ks Wk) {z : Fin 4} {v : Value} (dg : decode cc pc = .ok (.aload_n z, 1)) (hq : pc + 1 = q) (hx : L[(z : Nat)]? = some (some v)) (hv : v = .null ∨ ∃ t, v = .ref t) (kk : Wk k n q L (v :: S) H) : Wk k n pc L S H := by
  rcases hv with rfl | ⟨t, rfl⟩
  · exact C.aload_nN dg hq hx kk
  · exact C.aload_n dg hq hx kk
end
def cch (x : Int32) : Int32 := ((x &&& 255).toUInt32 % 65536).toInt32
theorem rv_out {g : Nat × Nat} {a : Nat} : rv g (.ref (a + 1000)) = .ref a := congrArg Value.ref ra_out
section
variable {sa sd : Nat} {tx : List Int32}
theorem j_coder (H : aH) : CtG (PrS sa sd tx) 1 0 0 yJ0_coder_7d493 (.code yJ0_coder_7d493 cJ0_coder_7d493 1 (some (.byte))) [.ref (sa + 1000)] H (.inl (some (.int 0))) H := by
  refine CtG.of (LL := [some (.ref (sa + 1000))]) mkJ0_coder_7d493.1 owJ0_coder_7d493 rfl (Nat.le_of_ble_eq_true rfl) rfl (fun Wk C => ?_)
  have G := C.cog
  have K := G.core
  refine G.gets (q := 3) (v := .int 1) (fun g s h => h.2.2.2.2.1) (fun _ => rfl) fw_J0_38 dJ0_coder_7d493_0 rfl ?_
  refine K.if_eq (q := 6) (tgt := 13) dJ0_coder_7d493_3 rfl (by decide) (fun h => absurd h (by decide)) (fun _ => ?_)
  refine K.aload_n (q := 7) dJ0_coder_7d493_6 rfl rfl ?_
  refine G.getO (q := 10) (v := .int 0) (fun g s h => h.2.1) (fun _ => rfl) fw_J0_15 dJ0_coder_7d493_7 rfl ?_
  refine K.goto (tgt := 14) dJ0_coder_7d493_10 (by decide) ?_
  exact C.okm.iret rfl rfl rfl rfl (Nat.le_of_ble_eq_true rfl) (Nat.le_of_ble_eq_true rfl) dJ0_coder_7d493_14
theorem j_isLatin1 (H : aH) : CtG (PrS sa sd tx) 1 0 0 yJ0_isLatin1_aae02 (.code yJ0_isLatin1_aae02 cJ0_isLatin1_aae02 1 (some (.boolean))) [.ref (sa + 1000)] H (.inl (some (.int 1))) H := by
  refine CtG.of (LL := [some (.ref (sa + 1000))]) mkJ0_isLatin1_aae02.1 owJ0_isLatin1_aae02 rfl (Nat.le_of_ble_eq_true rfl) rfl (fun Wk C => ?_)
  have G := C.cog
  have K := G.core
  refine G.gets (q := 3) (v := .int 1) (fun g s h => h.2.2.2.2.1) (fun _ => rfl) fw_J0_38 dJ0_isLatin1_aae02_0 rfl ?_
  refine K.if_eq (q := 6) (tgt := 17) dJ0_isLatin1_aae02_3 rfl (by decide) (fun h => absurd h (by decide)) (fun _ => ?_)
  refine K.aload_n (q := 7) dJ0_isLatin1_aae02_6 rfl rfl ?_
  refine G.getO (q := 10) (v := .int 0) (fun g s h => h.2.1) (fun _ => rfl) fw_J0_15 dJ0_isLatin1_aae02_7 rfl ?_
  refine K.if_ne (q := 13) (tgt := 17) dJ0_isLatin1_aae02_10 rfl (by decide) (fun h => absurd rfl h) (fun _ => ?_)
  refine K.iconst (q := 14) (v := 1) dJ0_isLatin1_aae02_13 rfl (by decide) ?_
  refine K.goto (tgt := 18) dJ0_isLatin1_aae02_14 (by decide) ?_
  exact C.okm.iret rfl rfl rfl rfl (Nat.le_of_ble_eq_true rfl) (Nat.le_of_ble_eq_true rfl) dJ0_isLatin1_aae02_18
theorem j_length (H : aH) : CtG (PrS sa sd tx) 2 0 0 yJ0_length_8abf5 (.code yJ0_length_8abf5 cJ0_length_8abf5 1 (some (.int))) [.ref (sa + 1000)] H (.inl (some (.int (nI tx.length)))) H := by
  refine CtG.of (LL := [some (.ref (sa + 1000))]) mkJ0_length_8abf5.1 owJ0_length_8abf5 rfl (Nat.le_of_ble_eq_true rfl) rfl (fun Wk C => ?_)
  have G := C.cog
  have K := G.core
  refine K.aload_n (q := 1) dJ0_length_8abf5_0 rfl rfl ?_
  refine G.getO (q := 4) (v := .ref (sd + 1000)) (fun g s h => h.2.2.1) (fun _ => rv_out) fw_J0_9 dJ0_length_8abf5_1 rfl ?_
  refine G.alnO (q := 5) (fun g s h => h.2.2.2.1) dJ0_length_8abf5_4 rfl ?_
  refine K.aload_n (q := 6) dJ0_length_8abf5_5 rfl rfl ?_
  refine G.callVo (av := []) (q := 9) prS_ok (fun g s h => h.1) mkJ0_coder_7d493 mw_J0_335 (j_coder H) rfl (by decide) rfl (Nat.le_of_ble_eq_true rfl) (Nat.le_of_ble_eq_true rfl) (Nat.le_of_ble_eq_true rfl) dJ0_length_8abf5_6 rfl ?_
  refine K.ishr (q := 10) dJ0_length_8abf5_9 rfl ?_
  rw [sb_shr0]
  exact C.okm.iret rfl rfl rfl rfl (Nat.le_of_ble_eq_true rfl) (Nat.le_of_ble_eq_true rfl) dJ0_length_8abf5_10
theorem j3_check (H : aH) (x y : Int32) (v : Value) (hv : v.category = 1) (h0 : ¬ x < 0) (h1 : x < y) : CtG (PrS sa sd tx) 1 0 0 yJ3_checkIndex_8e157 (.code yJ3_checkIndex_8e157 cJ3_checkIndex_8e157 3 (some (.int))) [.int x, .int y, v] H (.inl (some (.int x))) H := by
  refine CtG.of (LL := [some (.int x), some (.int y), some v]) mkJ3_checkIndex_8e157.1 owJ3_checkIndex_8e157 (by show (true && (true && ((v.category == 1) && true))) = true; rw [hv]; rfl) (Nat.le_of_ble_eq_true rfl) rfl (fun Wk C => ?_)
  have G := C.cog
  have K := G.core
  refine K.iload_n (q := 1) dJ3_checkIndex_8e157_0 rfl rfl ?_
  refine K.if_lt (q := 4) (tgt := 9) dJ3_checkIndex_8e157_1 rfl (by decide) (fun h => absurd h h0) (fun _ => ?_)
  refine K.iload_n (q := 5) dJ3_checkIndex_8e157_4 rfl rfl ?_
  refine K.iload_n (q := 6) dJ3_checkIndex_8e157_5 rfl rfl ?_
  refine K.icmp_lt (q := 9) (tgt := 16) dJ3_checkIndex_8e157_6 rfl (by decide) (fun _ => ?_) (fun h => absurd h1 h)
  refine K.iload_n (q := 17) dJ3_checkIndex_8e157_16 rfl rfl ?_
  exact C.okm.iret rfl rfl rfl rfl (Nat.le_of_ble_eq_true rfl) (Nat.le_of_ble_eq_true rfl) dJ3_checkIndex_8e157_17
theorem j0_check (H : aH) (x y : Int32) (h0 : ¬ x < 0) (h1 : x < y) : CtG (PrS sa sd tx) 2 0 0 yJ0_checkIndex_df160 (.code yJ0_checkIndex_df160 cJ0_checkIndex_df160 2 none) [.int x, .int y] H (.inl none) H := by
  refine CtG.of (LL := [some (.int x), some (.int y)]) mkJ0_checkIndex_df160.1 owJ0_checkIndex_df160 rfl (Nat.le_of_ble_eq_true rfl) rfl (fun Wk C => ?_)
  have G := C.cog
  have K := G.core
  refine K.iload_n (q := 1) dJ0_checkIndex_df160_0 rfl rfl ?_
  refine K.iload_n (q := 2) dJ0_checkIndex_df160_1 rfl rfl ?_
  refine G.getsq (q := 5) (fun g s h => h.2.2.2.2.2) fw_J0_1053 dJ0_checkIndex_df160_2 rfl (fun v hv => ?_)
  refine G.callS (S := []) (q := 8) prS_ok mkJ3_checkIndex_8e157 mw_J0_1059 (j3_check H x y v hv h0 h1) rfl (by decide) rfl (Nat.le_of_ble_eq_true rfl) (Nat.le_of_ble_eq_true rfl) (Nat.le_of_ble_eq_true rfl) dJ0_checkIndex_df160_5 rfl ?_
  refine K.pop (q := 9) dJ0_checkIndex_df160_8 rfl rfl ?_
  exact C.okm.vret rfl rfl rfl (Nat.le_of_ble_eq_true rfl) (Nat.le_of_ble_eq_true rfl) dJ0_checkIndex_df160_9
theorem cch_narrow (x : Int32) : narrow .char (.int (cch x)) = .int (cch x) := by
  have h : ∀ y : UInt32, (((y % 65536).toInt32).toUInt32 % 65536).toInt32 = (y % 65536).toInt32 := by
    intro y
    have : ((y % 65536).toInt32).toUInt32 = y % 65536 := rfl
    rw [this, show y % 65536 % 65536 = y % 65536 from UInt32.toNat_inj.mp (by rw [UInt32.toNat_mod, UInt32.toNat_mod]; exact Nat.mod_mod _ _)]
  show Value.int _ = _
  exact congrArg Value.int (h _)
theorem j1_charAt (H : aH) {j : Nat} (hj : j < tx.length) (hn : tx.length < 2147483648) : CtG (PrS sa sd tx) 3 0 0 yJ1_charAt_3b067 (.code yJ1_charAt_3b067 cJ1_charAt_3b067 2 (some (.char))) [.ref (sd + 1000), .int (nI j)] H (.inl (some (.int (cch (tx.getD j 0))))) H := by
  refine CtG.of (LL := [some (.ref (sd + 1000)), some (.int (nI j))]) mkJ1_charAt_3b067.1 owJ1_charAt_3b067 rfl (Nat.le_of_ble_eq_true rfl) rfl (fun Wk C => ?_)
  have G := C.cog
  have K := G.core
  have hj31 : j < 2147483648 := by omega
  refine K.iload_n (q := 1) dJ1_charAt_3b067_0 rfl rfl ?_
  refine K.aload_n (q := 2) dJ1_charAt_3b067_1 rfl rfl ?_
  refine G.alnO (q := 3) (fun g s h => h.2.2.2.1) dJ1_charAt_3b067_2 rfl ?_
  refine G.callSv (S := []) (q := 6) prS_ok mkJ0_checkIndex_df160 mw_J1_9 (j0_check H (nI j) (nI tx.length) (nI_pos hj31) (nI_lt hj hn)) rfl (by decide) rfl (Nat.le_of_ble_eq_true rfl) (Nat.le_of_ble_eq_true rfl) (Nat.le_of_ble_eq_true rfl) dJ1_charAt_3b067_3 rfl ?_
  refine K.aload_n (q := 7) dJ1_charAt_3b067_6 rfl rfl ?_
  refine K.iload_n (q := 8) dJ1_charAt_3b067_7 rfl rfl ?_
  refine G.balO (q := 9) (f := fun j => tx.getD j 0) (fun g s h => h.2.2.2.1) hj hn dJ1_charAt_3b067_8 rfl ?_
  refine K.sipush (q := 12) (v := 255) dJ1_charAt_3b067_9 rfl (by decide) ?_
  refine K.iand (q := 13) dJ1_charAt_3b067_12 rfl ?_
  refine K.i2c (q := 14) dJ1_charAt_3b067_13 rfl ?_
  exact C.okm.iret rfl (cch_narrow _) rfl rfl (Nat.le_of_ble_eq_true rfl) (Nat.le_of_ble_eq_true rfl) dJ1_charAt_3b067_14
theorem j_charAt (H : aH) {j : Nat} (hj : j < tx.length) (hn : tx.length < 2147483648) : CtG (PrS sa sd tx) 4 0 0 yJ0_charAt_5068e (.code yJ0_charAt_5068e cJ0_charAt_5068e 2 (some (.char))) [.ref (sa + 1000), .int (nI j)] H (.inl (some (.int (cch (tx.getD j 0))))) H := by
  refine CtG.of (LL := [some (.ref (sa + 1000)), some (.int (nI j))]) mkJ0_charAt_5068e.1 owJ0_charAt_5068e rfl (Nat.le_of_ble_eq_true rfl) rfl (fun Wk C => ?_)
  have G := C.cog
  have K := G.core
  refine K.aload_n (q := 1) dJ0_charAt_5068e_0 rfl rfl ?_
  refine G.callVo (av := []) (S := []) (q := 4) prS_ok (fun g s h => h.1) mkJ0_isLatin1_aae02 mw_J0_492 (j_isLatin1 H) rfl (by decide) rfl (Nat.le_of_ble_eq_true rfl) (Nat.le_of_ble_eq_true rfl) (Nat.le_of_ble_eq_true rfl) dJ0_charAt_5068e_1 rfl ?_
  refine K.if_eq (q := 7) (tgt := 16) dJ0_charAt_5068e_4 rfl (by decide) (fun h => absurd h (by decide)) (fun _ => ?_)
  refine K.aload_n (q := 8) dJ0_charAt_5068e_7 rfl rfl ?_
  refine G.getO (q := 11) (v := .ref (sd + 1000)) (fun g s h => h.2.2.1) (fun _ => rv_out) fw_J0_9 dJ0_charAt_5068e_8 rfl ?_
  refine K.iload_n (q := 12) dJ0_charAt_5068e_11 rfl rfl ?_
  refine G.callS (S := []) (q := 15) prS_ok mkJ1_charAt_3b067 mw_J0_495 (j1_charAt H hj hn) rfl (by decide) rfl (Nat.le_of_ble_eq_true rfl) (Nat.le_of_ble_eq_true rfl) (Nat.le_of_ble_eq_true rfl) dJ0_charAt_5068e_12 rfl ?_
  exact C.okm.iret rfl (cch_narrow _) rfl rfl (Nat.le_of_ble_eq_true rfl) (Nat.le_of_ble_eq_true rfl) dJ0_charAt_5068e_15
end
