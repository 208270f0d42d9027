/-! ===== the history, and the methods of the face ===== -/
theorem uB_comm {X : GS} {i j : Nat} {a c : BD} (h : ¬ i = j) : uB (uB X i a) j c = uB (uB X j c) i a := by
  unfold uB
  congr 1
  funext k
  show up (up X.1 i a) j c k = up (up X.1 j c) i a k
  by_cases h1 : k = i
  · subst h1
    rw [up_self, up_ne h, up_self]
  · by_cases h2 : k = j
    · subst h2
      rw [up_self, up_ne h1, up_self]
    · rw [up_ne h1, up_ne h2, up_ne h1, up_ne h2]
theorem uB_at {X : GS} {i : Nat} {a : BD} : (uB X i a).1 i = a := up_self
theorem uB_ne {X : GS} {i j : Nat} {a : BD} (h : ¬ j = i) : (uB X i a).1 j = X.1 j := up_ne h
theorem s_copyTo (X : GS) (b : BD) (j i : Nat) (hj : j < 11) (hj0 : ¬ j = 0) (hi : i < 11) (hij : ¬ i = j) : Ct 3 0 0 yX0_copyFrom (.code yX0_copyFrom cX0_copyFrom 2 none) [.ref (bo j), .ref (bo i)] (mkH (uB X 0 b)) (.inl none) (mkH (uB (uB X j (cpB ((uB X 0 b).1 i) (X.1 j))) 0 b)) := by
  have h := s_X0_copyFrom (uB X 0 b) j i (X.1 j) hj hi hij
  have e1 : uB (uB X 0 b) j (X.1 j) = uB X 0 b := by
    have e : X.1 j = (uB X 0 b).1 j := (uB_ne hj0).symm
    rw [e]
    exact uB_eta
  rw [e1, uB_comm (fun z => hj0 z.symm)] at h
  exact h
theorem bo3 {m : Nat} : bo (3 + m) = 36 + 11 * m := by
  unfold bo
  rw [if_neg (by omega)]
  omega
theorem s_copyRing0 (X : GS) (b : BD) {m : Nat} (hm : m < 8) : Ct 3 0 0 yX0_copyFrom (.code yX0_copyFrom cX0_copyFrom 2 none) [.ref (36 + 11 * m), .ref 1] (mkH (uB X 0 b)) (.inl none) (mkH (uB (uB X (3 + m) (cpB b (X.1 (3 + m)))) 0 b)) := by
  have h := s_copyTo X b (3 + m) 0 (by omega) (by omega) (by decide) (by omega)
  rw [bo3, uB_at] at h
  exact h
theorem s_copyRing1 (X : GS) (b : BD) {m : Nat} (hm : m < 8) : Ct 3 0 0 yX0_copyFrom (.code yX0_copyFrom cX0_copyFrom 2 none) [.ref (36 + 11 * m), .ref 12] (mkH (uB X 0 b)) (.inl none) (mkH (uB (uB X (3 + m) (cpB (X.1 1) (X.1 (3 + m)))) 0 b)) := by
  have h := s_copyTo X b (3 + m) 1 (by omega) (by omega) (by decide) (by omega)
  rw [bo3, uB_ne (by decide)] at h
  exact h
theorem s_copy10 (X : GS) (b : BD) : Ct 3 0 0 yX0_copyFrom (.code yX0_copyFrom cX0_copyFrom 2 none) [.ref 12, .ref 1] (mkH (uB X 0 b)) (.inl none) (mkH (uB (uB X 1 (cpB b (X.1 1))) 0 b)) := by
  have h := s_copyTo X b 1 0 (by omega) (by omega) (by decide) (by omega)
  rw [uB_at] at h
  exact h
theorem s_copy20 (X : GS) (b : BD) : Ct 3 0 0 yX0_copyFrom (.code yX0_copyFrom cX0_copyFrom 2 none) [.ref 23, .ref 1] (mkH (uB X 0 b)) (.inl none) (mkH (uB (uB X 2 (cpB b (X.1 2))) 0 b)) := by
  have h := s_copyTo X b 2 0 (by omega) (by omega) (by decide) (by omega)
  rw [uB_at] at h
  exact h
theorem s_copy01 (X : GS) (b : BD) : Ct 3 0 0 yX0_copyFrom (.code yX0_copyFrom cX0_copyFrom 2 none) [.ref 1, .ref 12] (mkH (uB X 0 b)) (.inl none) (mkH (uB X 0 (cpB (X.1 1) b))) := s_X0_copyFrom X 0 1 b (by decide) (by decide) (by decide)
theorem s_copy02 (X : GS) (b : BD) : Ct 3 0 0 yX0_copyFrom (.code yX0_copyFrom cX0_copyFrom 2 none) [.ref 1, .ref 23] (mkH (uB X 0 b)) (.inl none) (mkH (uB X 0 (cpB (X.1 2) b))) := s_X0_copyFrom X 0 2 b (by decide) (by decide) (by decide)
theorem s_copy0Ring (X : GS) (b : BD) {m : Nat} (hm : m < 8) : Ct 3 0 0 yX0_copyFrom (.code yX0_copyFrom cX0_copyFrom 2 none) [.ref 1, .ref (36 + 11 * m)] (mkH (uB X 0 b)) (.inl none) (mkH (uB X 0 (cpB (X.1 (3 + m)) b))) := by
  have h := s_X0_copyFrom X 0 (3 + m) b (by decide) (by omega) (by omega)
  rw [bo3] at h
  exact h
def okI (x : Int32) : Prop := ¬ x < 0 ∧ ¬ (8 : Int32) ≤ x
abbrev nx (X : GS) : Nat := (X.2.1 0).toNatClampNeg
theorem okI_lt {x : Int32} (h : okI x) : x.toNatClampNeg < 8 := cl_lt h.1 h.2 (by decide)
theorem okI_nI {x : Int32} (h : okI x) : x = nI x.toNatClampNeg := cl_nI h.1
theorem okI_next {x : Int32} (h : okI x) : okI (if x + 1 < 8 then x + 1 else 0) := by
  obtain ⟨m, hm, rfl⟩ : ∃ m, m < 8 ∧ x = nI m := ⟨_, okI_lt h, okI_nI h⟩
  revert h
  rcases (show m = 0 ∨ m = 1 ∨ m = 2 ∨ m = 3 ∨ m = 4 ∨ m = 5 ∨ m = 6 ∨ m = 7 by omega) with rfl | rfl | rfl | rfl | rfl | rfl | rfl | rfl <;> intro _ <;> exact ⟨by decide, by decide⟩
theorem okI_prev {x : Int32} (h : okI x) (h0 : 0 < x) : x - 1 = nI (x.toNatClampNeg - 1) := by
  obtain ⟨m, hm, rfl⟩ : ∃ m, m < 8 ∧ x = nI m := ⟨_, okI_lt h, okI_nI h⟩
  revert h h0
  rcases (show m = 0 ∨ m = 1 ∨ m = 2 ∨ m = 3 ∨ m = 4 ∨ m = 5 ∨ m = 6 ∨ m = 7 by omega) with rfl | rfl | rfl | rfl | rfl | rfl | rfl | rfl <;> intro _ h0 <;> first | rfl | exact absurd h0 (by decide)
theorem rdRing {X : GS} {b : BD} {m : Nat} (hm : m < 8) : (mkH (uB X 0 b)).2.2 (36 + 11 * m) = .inr (2, [.ref (bo (3 + m) + 1), .ref (bo (3 + m) + 3), .ref (bo (3 + m) + 8)]) := by
  have h := rdi0 (X := X) (j := 0) (b := b) (i := 3 + m) (by omega) (by omega)
  rw [Nat.add_zero, bo3] at h
  rw [bo3]
  exact h
theorem ring_lt {X : GS} {m : Nat} (hm : m < 8) : 36 + 11 * m < (mkH X).2.1 := by
  show 36 + 11 * m < 131
  omega
theorem Core.aalR {own : String} {cc : ByteArray} {nL d kc ks : Nat} {Wk : tW} {k n pc q : Nat} {L : List (Option Value)} {S : List Value} {H : aH} (C : Core own cc nL d kc ks Wk) {i len m r : Nat} {f : Nat → Option Nat} {x : Int32} (hH : H.2.2 i = .inl (4, len, .inr (.inr (.inr (.inr f))))) (hi : i < H.2.1) (hx : x = nI m) (hm : m < len) (h31 : len < 2147483648) (hf : f m = some r) (dg : decode cc pc = .ok (.aaload, 1)) (hq : pc + 1 = q) (kk : Wk k n q L (.ref r :: S) H) : Wk k n pc L (.int x :: .ref i :: S) H := by
  refine C.aal hH hi hx hm h31 dg hq ?_
  rw [hf]
  exact kk
theorem nI_ge0 {m : Nat} (hm : m < 8) : ¬ nI m < 0 := by
  rcases (show m = 0 ∨ m = 1 ∨ m = 2 ∨ m = 3 ∨ m = 4 ∨ m = 5 ∨ m = 6 ∨ m = 7 by omega) with rfl | rfl | rfl | rfl | rfl | rfl | rfl | rfl <;> decide
theorem nI_lt8 {m : Nat} (hm : m < 8) : ¬ (8 : Int32) ≤ nI m := by
  rcases (show m = 0 ∨ m = 1 ∨ m = 2 ∨ m = 3 ∨ m = 4 ∨ m = 5 ∨ m = 6 ∨ m = 7 by omega) with rfl | rfl | rfl | rfl | rfl | rfl | rfl | rfl <;> decide
set_option maxRecDepth 20000 in
theorem s_X1_keptAt (X : GS) (b : BD) {m : Nat} {x : Int32} (hx : x = nI m) (hm : m < 8) : Ct 1 0 0 yX1_keptAt (.code yX1_keptAt cX1_keptAt 2 (some (.object "CheeseTwins$Board"))) [.ref 34, .int x] (mkH (uB X 0 b)) (.inl (some (.ref (36 + 11 * m)))) (mkH (uB X 0 b)) := by
  refine Ct.of (LL := [some (.ref 34), some (.int x)]) mkX1_keptAt.1 owX1_keptAt rfl (Nat.le_of_ble_eq_true rfl) rfl (fun Wk C => ?_)
  have K := C.core
  subst hx
  refine K.iload_n (q := 1) dX1_keptAt_0 rfl rfl ?_
  refine K.if_lt (q := 4) (tgt := 19) dX1_keptAt_1 rfl (by decide) (fun z => absurd z (nI_ge0 hm)) (fun _ => ?_)
  refine K.iload_n (q := 5) dX1_keptAt_4 rfl rfl ?_
  refine K.bipush (q := 7) (v := 8) dX1_keptAt_5 rfl (by decide) ?_
  refine K.icmp_ge (q := 10) (tgt := 19) dX1_keptAt_7 rfl (by decide) (fun z => absurd z (nI_lt8 hm)) (fun _ => ?_)
  refine K.aload_n (q := 11) dX1_keptAt_10 rfl rfl ?_
  refine K.getf (q := 14) (v := .ref 35) fo_X1_11.r rx34b (lt141 (by decide)) rfl dX1_keptAt_11 rfl ?_
  refine K.iload_n (q := 15) dX1_keptAt_14 rfl rfl ?_
  refine K.aalR (q := 16) (f := ring0) (m := m) rx35 (lt141 (by decide)) rfl hm (by decide) (if_pos hm) dX1_keptAt_15 rfl ?_
  refine K.goto (tgt := 20) dX1_keptAt_16 (by decide) ?_
  exact C.aret rfl (Or.inr ⟨_, rfl⟩) rfl rfl (Nat.le_of_ble_eq_true rfl) (Nat.le_of_ble_eq_true rfl) dX1_keptAt_20

def x_X1_keep0 (X : GS) (b : BD) : GS := (if 8 ≤ (((uB X (3 + nx X) (cpB b (X.1 (3 + nx X)))).2.1 0) + 1) then (uS (uS (uB X (3 + nx X) (cpB b (X.1 (3 + nx X)))) 0 0) 1 (if 8 < (((uB X (3 + nx X) (cpB b (X.1 (3 + nx X)))).2.1 1) + 1) then 8 else (((uB X (3 + nx X) (cpB b (X.1 (3 + nx X)))).2.1 1) + 1))) else (uS (uS (uB X (3 + nx X) (cpB b (X.1 (3 + nx X)))) 0 (((uB X (3 + nx X) (cpB b (X.1 (3 + nx X)))).2.1 0) + 1)) 1 (if 8 < (((uB X (3 + nx X) (cpB b (X.1 (3 + nx X)))).2.1 1) + 1) then 8 else (((uB X (3 + nx X) (cpB b (X.1 (3 + nx X)))).2.1 1) + 1))))
set_option maxRecDepth 20000 in
theorem s_X1_keep0 (X : GS) (b : BD) (hN : okI (X.2.1 0)) : Ct 4 0 0 yX1_keep (.code yX1_keep cX1_keep 3 none) [.ref 34, .ref 1] (mkH (uB X 0 b)) (.inl none) (mkH (uB (x_X1_keep0 X b) 0 b)) := by
  refine Ct.of (LL := [some (.ref 34), some (.ref 1), none]) mkX1_keep.1 owX1_keep rfl (Nat.le_of_ble_eq_true rfl) rfl (fun Wk C => ?_)
  have K := C.core
  refine K.aload_n (q := 1) dX1_keep_0 rfl rfl ?_
  refine K.aload_n (q := 2) dX1_keep_1 rfl rfl ?_
  refine K.getf (q := 5) (v := .int (X.2.1 0)) fo_X1_17.r rx34b (lt141 (by decide)) rfl dX1_keep_2 rfl ?_
  refine K.callV0 (q := 8) mkX1_keptAt mw_X1_25 (s_X1_keptAt X b (okI_nI hN) (okI_lt hN)) rfl (by decide) rfl (lt141 (by decide)) rx34b (Nat.le_of_ble_eq_true rfl) (Nat.le_of_ble_eq_true rfl) (Nat.le_of_ble_eq_true rfl) dX1_keep_5 rfl ?_
  refine K.astore_n (q := 9) (i := 2) dX1_keep_8 rfl rfl (by decide) rfl ?_
  refine K.aload_n (q := 10) dX1_keep_9 rfl rfl ?_
  refine K.ifnull (q := 13) dX1_keep_10 rfl ?_
  refine K.aload_n (q := 14) dX1_keep_13 rfl rfl ?_
  refine K.aload_n (q := 15) dX1_keep_14 rfl rfl ?_
  refine K.callVv0 (q := 18) mkX0_copyFrom mw_X1_29 (s_copyRing0 X b (okI_lt hN)) rfl (by decide) rfl (ring_lt (okI_lt hN)) (rdRing (okI_lt hN)) (Nat.le_of_ble_eq_true rfl) (Nat.le_of_ble_eq_true rfl) (Nat.le_of_ble_eq_true rfl) dX1_keep_15 rfl ?_
  refine K.aload_n (q := 19) dX1_keep_18 rfl rfl ?_
  refine K.aload_n (q := 20) dX1_keep_19 rfl rfl ?_
  refine K.getf (q := 23) (v := .int ((uB X (3 + nx X) (cpB b (X.1 (3 + nx X)))).2.1 0)) fo_X1_17.r rx34b (lt141 (by decide)) rfl dX1_keep_20 rfl ?_
  refine K.iconst (q := 24) (v := 1) dX1_keep_23 rfl (by decide) ?_
  refine K.iadd (q := 25) dX1_keep_24 rfl ?_
  refine K.bipush (q := 27) (v := 8) dX1_keep_25 rfl (by decide) ?_
  refine K.icmp_ge (q := 30) (tgt := 39) dX1_keep_27 rfl (by decide) (fun c_27_1 => ?_) (fun c_27_1 => ?_)
  · refine K.iconst (q := 40) (v := 0) dX1_keep_39 rfl (by decide) ?_
    refine K.putf (q := 43) fo_X1_17 rx34b (lt141 (by decide)) (Nat.le_of_ble_eq_true rfl) (fun _ => rfl) (fun _ => rfl) pxs0b dX1_keep_40 rfl ?_
    refine K.aload_n (q := 44) dX1_keep_43 rfl rfl ?_
    refine K.aload_n (q := 45) dX1_keep_44 rfl rfl ?_
    refine K.getf (q := 48) (v := .int ((uB X (3 + nx X) (cpB b (X.1 (3 + nx X)))).2.1 1)) fo_X1_21.r rx34b (lt141 (by decide)) rfl dX1_keep_45 rfl ?_
    refine K.iconst (q := 49) (v := 1) dX1_keep_48 rfl (by decide) ?_
    refine K.iadd (q := 50) dX1_keep_49 rfl ?_
    refine K.bipush (q := 52) (v := 8) dX1_keep_50 rfl (by decide) ?_
    refine K.mmin (q := 55) mw_X1_33 (by decide) (Nat.le_of_ble_eq_true rfl) dX1_keep_52 rfl (Nat.le_of_ble_eq_true rfl) (Nat.le_of_ble_eq_true rfl) ?_
    refine K.putf (q := 58) fo_X1_21 rx34b (lt141 (by decide)) (Nat.le_of_ble_eq_true rfl) (fun _ => rfl) (fun _ => rfl) pxs1b dX1_keep_55 rfl ?_
    exact C.vret rfl rfl (by rw [x_X1_keep0, if_pos c_27_1]) (Nat.le_of_ble_eq_true rfl) (Nat.le_of_ble_eq_true rfl) dX1_keep_58
  · refine K.aload_n (q := 31) dX1_keep_30 rfl rfl ?_
    refine K.getf (q := 34) (v := .int ((uB X (3 + nx X) (cpB b (X.1 (3 + nx X)))).2.1 0)) fo_X1_17.r rx34b (lt141 (by decide)) rfl dX1_keep_31 rfl ?_
    refine K.iconst (q := 35) (v := 1) dX1_keep_34 rfl (by decide) ?_
    refine K.iadd (q := 36) dX1_keep_35 rfl ?_
    refine K.goto (tgt := 40) dX1_keep_36 (by decide) ?_
    refine K.putf (q := 43) fo_X1_17 rx34b (lt141 (by decide)) (Nat.le_of_ble_eq_true rfl) (fun _ => rfl) (fun _ => rfl) pxs0b dX1_keep_40 rfl ?_
    refine K.aload_n (q := 44) dX1_keep_43 rfl rfl ?_
    refine K.aload_n (q := 45) dX1_keep_44 rfl rfl ?_
    refine K.getf (q := 48) (v := .int ((uB X (3 + nx X) (cpB b (X.1 (3 + nx X)))).2.1 1)) fo_X1_21.r rx34b (lt141 (by decide)) rfl dX1_keep_45 rfl ?_
    refine K.iconst (q := 49) (v := 1) dX1_keep_48 rfl (by decide) ?_
    refine K.iadd (q := 50) dX1_keep_49 rfl ?_
    refine K.bipush (q := 52) (v := 8) dX1_keep_50 rfl (by decide) ?_
    refine K.mmin (q := 55) mw_X1_33 (by decide) (Nat.le_of_ble_eq_true rfl) dX1_keep_52 rfl (Nat.le_of_ble_eq_true rfl) (Nat.le_of_ble_eq_true rfl) ?_
    refine K.putf (q := 58) fo_X1_21 rx34b (lt141 (by decide)) (Nat.le_of_ble_eq_true rfl) (fun _ => rfl) (fun _ => rfl) pxs1b dX1_keep_55 rfl ?_
    exact C.vret rfl rfl (by rw [x_X1_keep0, if_neg c_27_1]) (Nat.le_of_ble_eq_true rfl) (Nat.le_of_ble_eq_true rfl) dX1_keep_58

def x_X1_keep1 (X : GS) : GS := (if 8 ≤ (((uB X (3 + nx X) (cpB (X.1 1) (X.1 (3 + nx X)))).2.1 0) + 1) then (uS (uS (uB X (3 + nx X) (cpB (X.1 1) (X.1 (3 + nx X)))) 0 0) 1 (if 8 < (((uB X (3 + nx X) (cpB (X.1 1) (X.1 (3 + nx X)))).2.1 1) + 1) then 8 else (((uB X (3 + nx X) (cpB (X.1 1) (X.1 (3 + nx X)))).2.1 1) + 1))) else (uS (uS (uB X (3 + nx X) (cpB (X.1 1) (X.1 (3 + nx X)))) 0 (((uB X (3 + nx X) (cpB (X.1 1) (X.1 (3 + nx X)))).2.1 0) + 1)) 1 (if 8 < (((uB X (3 + nx X) (cpB (X.1 1) (X.1 (3 + nx X)))).2.1 1) + 1) then 8 else (((uB X (3 + nx X) (cpB (X.1 1) (X.1 (3 + nx X)))).2.1 1) + 1))))
set_option maxRecDepth 20000 in
theorem s_X1_keep1 (X : GS) (b : BD) (hN : okI (X.2.1 0)) : Ct 4 0 0 yX1_keep (.code yX1_keep cX1_keep 3 none) [.ref 34, .ref 12] (mkH (uB X 0 b)) (.inl none) (mkH (uB (x_X1_keep1 X) 0 b)) := by
  refine Ct.of (LL := [some (.ref 34), some (.ref 12), none]) mkX1_keep.1 owX1_keep rfl (Nat.le_of_ble_eq_true rfl) rfl (fun Wk C => ?_)
  have K := C.core
  refine K.aload_n (q := 1) dX1_keep_0 rfl rfl ?_
  refine K.aload_n (q := 2) dX1_keep_1 rfl rfl ?_
  refine K.getf (q := 5) (v := .int (X.2.1 0)) fo_X1_17.r rx34b (lt141 (by decide)) rfl dX1_keep_2 rfl ?_
  refine K.callV0 (q := 8) mkX1_keptAt mw_X1_25 (s_X1_keptAt X b (okI_nI hN) (okI_lt hN)) rfl (by decide) rfl (lt141 (by decide)) rx34b (Nat.le_of_ble_eq_true rfl) (Nat.le_of_ble_eq_true rfl) (Nat.le_of_ble_eq_true rfl) dX1_keep_5 rfl ?_
  refine K.astore_n (q := 9) (i := 2) dX1_keep_8 rfl rfl (by decide) rfl ?_
  refine K.aload_n (q := 10) dX1_keep_9 rfl rfl ?_
  refine K.ifnull (q := 13) dX1_keep_10 rfl ?_
  refine K.aload_n (q := 14) dX1_keep_13 rfl rfl ?_
  refine K.aload_n (q := 15) dX1_keep_14 rfl rfl ?_
  refine K.callVv0 (q := 18) mkX0_copyFrom mw_X1_29 (s_copyRing1 X b (okI_lt hN)) rfl (by decide) rfl (ring_lt (okI_lt hN)) (rdRing (okI_lt hN)) (Nat.le_of_ble_eq_true rfl) (Nat.le_of_ble_eq_true rfl) (Nat.le_of_ble_eq_true rfl) dX1_keep_15 rfl ?_
  refine K.aload_n (q := 19) dX1_keep_18 rfl rfl ?_
  refine K.aload_n (q := 20) dX1_keep_19 rfl rfl ?_
  refine K.getf (q := 23) (v := .int ((uB X (3 + nx X) (cpB (X.1 1) (X.1 (3 + nx X)))).2.1 0)) fo_X1_17.r rx34b (lt141 (by decide)) rfl dX1_keep_20 rfl ?_
  refine K.iconst (q := 24) (v := 1) dX1_keep_23 rfl (by decide) ?_
  refine K.iadd (q := 25) dX1_keep_24 rfl ?_
  refine K.bipush (q := 27) (v := 8) dX1_keep_25 rfl (by decide) ?_
  refine K.icmp_ge (q := 30) (tgt := 39) dX1_keep_27 rfl (by decide) (fun c_27_1 => ?_) (fun c_27_1 => ?_)
  · refine K.iconst (q := 40) (v := 0) dX1_keep_39 rfl (by decide) ?_
    refine K.putf (q := 43) fo_X1_17 rx34b (lt141 (by decide)) (Nat.le_of_ble_eq_true rfl) (fun _ => rfl) (fun _ => rfl) pxs0b dX1_keep_40 rfl ?_
    refine K.aload_n (q := 44) dX1_keep_43 rfl rfl ?_
    refine K.aload_n (q := 45) dX1_keep_44 rfl rfl ?_
    refine K.getf (q := 48) (v := .int ((uB X (3 + nx X) (cpB (X.1 1) (X.1 (3 + nx X)))).2.1 1)) fo_X1_21.r rx34b (lt141 (by decide)) rfl dX1_keep_45 rfl ?_
    refine K.iconst (q := 49) (v := 1) dX1_keep_48 rfl (by decide) ?_
    refine K.iadd (q := 50) dX1_keep_49 rfl ?_
    refine K.bipush (q := 52) (v := 8) dX1_keep_50 rfl (by decide) ?_
    refine K.mmin (q := 55) mw_X1_33 (by decide) (Nat.le_of_ble_eq_true rfl) dX1_keep_52 rfl (Nat.le_of_ble_eq_true rfl) (Nat.le_of_ble_eq_true rfl) ?_
    refine K.putf (q := 58) fo_X1_21 rx34b (lt141 (by decide)) (Nat.le_of_ble_eq_true rfl) (fun _ => rfl) (fun _ => rfl) pxs1b dX1_keep_55 rfl ?_
    exact C.vret rfl rfl (by rw [x_X1_keep1, if_pos c_27_1]) (Nat.le_of_ble_eq_true rfl) (Nat.le_of_ble_eq_true rfl) dX1_keep_58
  · refine K.aload_n (q := 31) dX1_keep_30 rfl rfl ?_
    refine K.getf (q := 34) (v := .int ((uB X (3 + nx X) (cpB (X.1 1) (X.1 (3 + nx X)))).2.1 0)) fo_X1_17.r rx34b (lt141 (by decide)) rfl dX1_keep_31 rfl ?_
    refine K.iconst (q := 35) (v := 1) dX1_keep_34 rfl (by decide) ?_
    refine K.iadd (q := 36) dX1_keep_35 rfl ?_
    refine K.goto (tgt := 40) dX1_keep_36 (by decide) ?_
    refine K.putf (q := 43) fo_X1_17 rx34b (lt141 (by decide)) (Nat.le_of_ble_eq_true rfl) (fun _ => rfl) (fun _ => rfl) pxs0b dX1_keep_40 rfl ?_
    refine K.aload_n (q := 44) dX1_keep_43 rfl rfl ?_
    refine K.aload_n (q := 45) dX1_keep_44 rfl rfl ?_
    refine K.getf (q := 48) (v := .int ((uB X (3 + nx X) (cpB (X.1 1) (X.1 (3 + nx X)))).2.1 1)) fo_X1_21.r rx34b (lt141 (by decide)) rfl dX1_keep_45 rfl ?_
    refine K.iconst (q := 49) (v := 1) dX1_keep_48 rfl (by decide) ?_
    refine K.iadd (q := 50) dX1_keep_49 rfl ?_
    refine K.bipush (q := 52) (v := 8) dX1_keep_50 rfl (by decide) ?_
    refine K.mmin (q := 55) mw_X1_33 (by decide) (Nat.le_of_ble_eq_true rfl) dX1_keep_52 rfl (Nat.le_of_ble_eq_true rfl) (Nat.le_of_ble_eq_true rfl) ?_
    refine K.putf (q := 58) fo_X1_21 rx34b (lt141 (by decide)) (Nat.le_of_ble_eq_true rfl) (fun _ => rfl) (fun _ => rfl) pxs1b dX1_keep_55 rfl ?_
    exact C.vret rfl rfl (by rw [x_X1_keep1, if_neg c_27_1]) (Nat.le_of_ble_eq_true rfl) (Nat.le_of_ble_eq_true rfl) dX1_keep_58

def u_X1_takeBack (X : GS) (b : BD) : BD := (if (X.2.1 0) ≤ 0 then (if (X.2.1 1) ≤ 0 then b else (cpB (X.1 (3 + 7)) b)) else (if (X.2.1 1) ≤ 0 then b else (cpB (X.1 (3 + (nx X - 1))) b)))

def x_X1_takeBack (X : GS) : GS := (if (X.2.1 0) ≤ 0 then (if (X.2.1 1) ≤ 0 then X else (uS (uS X 0 7) 1 ((X.2.1 1) - 1))) else (if (X.2.1 1) ≤ 0 then X else (uS (uS X 0 ((X.2.1 0) - 1)) 1 ((X.2.1 1) - 1))))
set_option maxRecDepth 20000 in
theorem s_X1_takeBack (X : GS) (b : BD) (hN : okI (X.2.1 0)) : Ct 4 0 0 yX1_takeBack (.code yX1_takeBack cX1_takeBack 4 none) [.ref 34, .ref 1] (mkH (uB X 0 b)) (.inl none) (mkH (uB (x_X1_takeBack X) 0 (u_X1_takeBack X b))) := by
  refine Ct.of (LL := [some (.ref 34), some (.ref 1), none, none]) mkX1_takeBack.1 owX1_takeBack rfl (Nat.le_of_ble_eq_true rfl) rfl (fun Wk C => ?_)
  have K := C.core
  refine K.aload_n (q := 1) dX1_takeBack_0 rfl rfl ?_
  refine K.getf (q := 4) (v := .int (X.2.1 0)) fo_X1_17.r rx34b (lt141 (by decide)) rfl dX1_takeBack_1 rfl ?_
  refine K.if_le (q := 7) (tgt := 16) dX1_takeBack_4 rfl (by decide) (fun c_4_1 => ?_) (fun c_4_1 => ?_)
  · refine K.bipush (q := 18) (v := 7) dX1_takeBack_16 rfl (by decide) ?_
    refine K.istore_n (q := 19) (i := 2) dX1_takeBack_18 rfl rfl (by decide) rfl ?_
    refine K.aload_n (q := 20) dX1_takeBack_19 rfl rfl ?_
    refine K.iload_n (q := 21) dX1_takeBack_20 rfl rfl ?_
    refine K.callV0 (q := 24) mkX1_keptAt mw_X1_25 (s_X1_keptAt X b (m := 7) rfl (by decide)) rfl (by decide) rfl (lt141 (by decide)) rx34b (Nat.le_of_ble_eq_true rfl) (Nat.le_of_ble_eq_true rfl) (Nat.le_of_ble_eq_true rfl) dX1_takeBack_21 rfl ?_
    refine K.astore_n (q := 25) (i := 3) dX1_takeBack_24 rfl rfl (by decide) rfl ?_
    refine K.aload_n (q := 26) dX1_takeBack_25 rfl rfl ?_
    refine K.ifnull (q := 29) dX1_takeBack_26 rfl ?_
    refine K.aload_n (q := 30) dX1_takeBack_29 rfl rfl ?_
    refine K.getf (q := 33) (v := .int (X.2.1 1)) fo_X1_21.r rx34b (lt141 (by decide)) rfl dX1_takeBack_30 rfl ?_
    refine K.if_le (q := 36) (tgt := 56) dX1_takeBack_33 rfl (by decide) (fun c_33_2 => ?_) (fun c_33_2 => ?_)
    · exact C.vret rfl rfl (by rw [u_X1_takeBack, if_pos c_4_1, if_pos c_33_2, x_X1_takeBack, if_pos c_4_1, if_pos c_33_2]) (Nat.le_of_ble_eq_true rfl) (Nat.le_of_ble_eq_true rfl) dX1_takeBack_56
    · refine K.aload_n (q := 37) dX1_takeBack_36 rfl rfl ?_
      refine K.aload_n (q := 38) dX1_takeBack_37 rfl rfl ?_
      refine K.callVv0 (q := 41) mkX0_copyFrom mw_X1_29 (s_copy0Ring X b (by decide)) rfl (by decide) rfl (lt141 (by decide)) rb1 (Nat.le_of_ble_eq_true rfl) (Nat.le_of_ble_eq_true rfl) (Nat.le_of_ble_eq_true rfl) dX1_takeBack_38 rfl ?_
      refine K.aload_n (q := 42) dX1_takeBack_41 rfl rfl ?_
      refine K.iload_n (q := 43) dX1_takeBack_42 rfl rfl ?_
      refine K.putf (q := 46) fo_X1_17 rx34b (lt141 (by decide)) (Nat.le_of_ble_eq_true rfl) (fun _ => rfl) (fun _ => rfl) pxs0b dX1_takeBack_43 rfl ?_
      refine K.aload_n (q := 47) dX1_takeBack_46 rfl rfl ?_
      refine K.dup (q := 48) dX1_takeBack_47 rfl rfl ?_
      refine K.getf (q := 51) (v := .int (X.2.1 1)) fo_X1_21.r rx34b (lt141 (by decide)) rfl dX1_takeBack_48 rfl ?_
      refine K.iconst (q := 52) (v := 1) dX1_takeBack_51 rfl (by decide) ?_
      refine K.isub (q := 53) dX1_takeBack_52 rfl ?_
      refine K.putf (q := 56) fo_X1_21 rx34b (lt141 (by decide)) (Nat.le_of_ble_eq_true rfl) (fun _ => rfl) (fun _ => rfl) pxs1b dX1_takeBack_53 rfl ?_
      exact C.vret rfl rfl (by rw [u_X1_takeBack, if_pos c_4_1, if_neg c_33_2, x_X1_takeBack, if_pos c_4_1, if_neg c_33_2]) (Nat.le_of_ble_eq_true rfl) (Nat.le_of_ble_eq_true rfl) dX1_takeBack_56
  · refine K.aload_n (q := 8) dX1_takeBack_7 rfl rfl ?_
    refine K.getf (q := 11) (v := .int (X.2.1 0)) fo_X1_17.r rx34b (lt141 (by decide)) rfl dX1_takeBack_8 rfl ?_
    refine K.iconst (q := 12) (v := 1) dX1_takeBack_11 rfl (by decide) ?_
    refine K.isub (q := 13) dX1_takeBack_12 rfl ?_
    refine K.goto (tgt := 18) dX1_takeBack_13 (by decide) ?_
    refine K.istore_n (q := 19) (i := 2) dX1_takeBack_18 rfl rfl (by decide) rfl ?_
    refine K.aload_n (q := 20) dX1_takeBack_19 rfl rfl ?_
    refine K.iload_n (q := 21) dX1_takeBack_20 rfl rfl ?_
    refine K.callV0 (q := 24) mkX1_keptAt mw_X1_25 (s_X1_keptAt X b (okI_prev hN (Int32.not_le.mp c_4_1)) (Nat.lt_of_le_of_lt (Nat.sub_le _ _) (okI_lt hN))) rfl (by decide) rfl (lt141 (by decide)) rx34b (Nat.le_of_ble_eq_true rfl) (Nat.le_of_ble_eq_true rfl) (Nat.le_of_ble_eq_true rfl) dX1_takeBack_21 rfl ?_
    refine K.astore_n (q := 25) (i := 3) dX1_takeBack_24 rfl rfl (by decide) rfl ?_
    refine K.aload_n (q := 26) dX1_takeBack_25 rfl rfl ?_
    refine K.ifnull (q := 29) dX1_takeBack_26 rfl ?_
    refine K.aload_n (q := 30) dX1_takeBack_29 rfl rfl ?_
    refine K.getf (q := 33) (v := .int (X.2.1 1)) fo_X1_21.r rx34b (lt141 (by decide)) rfl dX1_takeBack_30 rfl ?_
    refine K.if_le (q := 36) (tgt := 56) dX1_takeBack_33 rfl (by decide) (fun c_33_3 => ?_) (fun c_33_3 => ?_)
    · exact C.vret rfl rfl (by rw [u_X1_takeBack, if_neg c_4_1, if_pos c_33_3, x_X1_takeBack, if_neg c_4_1, if_pos c_33_3]) (Nat.le_of_ble_eq_true rfl) (Nat.le_of_ble_eq_true rfl) dX1_takeBack_56
    · refine K.aload_n (q := 37) dX1_takeBack_36 rfl rfl ?_
      refine K.aload_n (q := 38) dX1_takeBack_37 rfl rfl ?_
      refine K.callVv0 (q := 41) mkX0_copyFrom mw_X1_29 (s_copy0Ring X b (Nat.lt_of_le_of_lt (Nat.sub_le _ _) (okI_lt hN))) rfl (by decide) rfl (lt141 (by decide)) rb1 (Nat.le_of_ble_eq_true rfl) (Nat.le_of_ble_eq_true rfl) (Nat.le_of_ble_eq_true rfl) dX1_takeBack_38 rfl ?_
      refine K.aload_n (q := 42) dX1_takeBack_41 rfl rfl ?_
      refine K.iload_n (q := 43) dX1_takeBack_42 rfl rfl ?_
      refine K.putf (q := 46) fo_X1_17 rx34b (lt141 (by decide)) (Nat.le_of_ble_eq_true rfl) (fun _ => rfl) (fun _ => rfl) pxs0b dX1_takeBack_43 rfl ?_
      refine K.aload_n (q := 47) dX1_takeBack_46 rfl rfl ?_
      refine K.dup (q := 48) dX1_takeBack_47 rfl rfl ?_
      refine K.getf (q := 51) (v := .int (X.2.1 1)) fo_X1_21.r rx34b (lt141 (by decide)) rfl dX1_takeBack_48 rfl ?_
      refine K.iconst (q := 52) (v := 1) dX1_takeBack_51 rfl (by decide) ?_
      refine K.isub (q := 53) dX1_takeBack_52 rfl ?_
      refine K.putf (q := 56) fo_X1_21 rx34b (lt141 (by decide)) (Nat.le_of_ble_eq_true rfl) (fun _ => rfl) (fun _ => rfl) pxs1b dX1_takeBack_53 rfl ?_
      exact C.vret rfl rfl (by rw [u_X1_takeBack, if_neg c_4_1, if_neg c_33_3, x_X1_takeBack, if_neg c_4_1, if_neg c_33_3]) (Nat.le_of_ble_eq_true rfl) (Nat.le_of_ble_eq_true rfl) dX1_takeBack_56

def x_X1_clear (X : GS) : GS := (uS X 1 0)
set_option maxRecDepth 20000 in
theorem s_X1_clear (X : GS) (b : BD) : Ct 1 0 0 yX1_clear (.code yX1_clear cX1_clear 1 none) [.ref 34] (mkH (uB X 0 b)) (.inl none) (mkH (uB (x_X1_clear X) 0 b)) := by
  refine Ct.of (LL := [some (.ref 34)]) mkX1_clear.1 owX1_clear rfl (Nat.le_of_ble_eq_true rfl) rfl (fun Wk C => ?_)
  have K := C.core
  refine K.aload_n (q := 1) dX1_clear_0 rfl rfl ?_
  refine K.iconst (q := 2) (v := 0) dX1_clear_1 rfl (by decide) ?_
  refine K.putf (q := 5) fo_X1_21 rx34b (lt141 (by decide)) (Nat.le_of_ble_eq_true rfl) (fun _ => rfl) (fun _ => rfl) pxs1b dX1_clear_2 rfl ?_
  exact C.vret rfl rfl (by rw [x_X1_clear]) (Nat.le_of_ble_eq_true rfl) (Nat.le_of_ble_eq_true rfl) dX1_clear_5
