/-! ===== copying boards, the history ===== -/
def cpy (n : Nat) (f g : Nat → Int32) : Nat → Int32 := fun k => if k < n then f k else g k
theorem cpy_eq {f g : Nat → Int32} {n : Int32} {m : Nat} (h : n.toNatClampNeg = m) : va_cpy f g (Int32.toNatClampNeg 0) (Int32.toNatClampNeg 0) n.toNatClampNeg = cpy m f g := by
  subst h
  funext k
  have h0 : Int32.toNatClampNeg 0 = 0 := rfl
  simp [va_cpy, cpy, h0]
theorem bo_lt {X : GS} {j c : Nat} (hj : j < 11) (hc : c < 11) : bo j + c < (mkH X).2.1 := by
  show bo j + c < 131
  unfold bo
  split <;> omega
/-- what a board holds behind copyFrom -/
def cpP (s b : BD) : BD := bS (bS (bS (bA b 0 (cpy 64 (s.2 0) (b.2 0))) 0 (s.1 0)) 1 (s.1 1)) 2 (s.1 2)
def cpL (s b : BD) : BD := bS (bA (bA (bA (bA b 1 (cpy 16 (s.2 1) (b.2 1))) 2 (cpy 16 (s.2 2) (b.2 2))) 3 (cpy 16 (s.2 3) (b.2 3))) 4 (cpy 16 (s.2 4) (b.2 4))) 3 (s.1 3)
def cpW (s b : BD) : BD := bS (bA (bA b 5 (cpy 6 (s.2 5) (b.2 5))) 6 (cpy 6 (s.2 6) (b.2 6))) 4 (s.1 4)
def cpB (s b : BD) : BD := cpW s (cpL s (cpP s b))
theorem rdj0 {X : GS} {j : Nat} {b : BD} (hj : j < 11) : (mkH (uB X j b)).2.2 (bo j + 0) = .inr (2, [.ref (bo j + 1), .ref (bo j + 3), .ref (bo j + 8)]) := by
  rw [rdB hj (by decide)]
  show cB (bo j) (up X.1 j b j) 0 = _
  rw [up_self]; rfl
theorem rdi0 {X : GS} {j i : Nat} {b : BD} (hi : i < 11) (hij : ¬ i = j) : (mkH (uB X j b)).2.2 (bo i + 0) = .inr (2, [.ref (bo i + 1), .ref (bo i + 3), .ref (bo i + 8)]) := by
  rw [rdB hi (by decide)]
  show cB (bo i) (up X.1 j b i) 0 = _
  rw [up_ne hij]; rfl
theorem rdj1 {X : GS} {j : Nat} {b : BD} (hj : j < 11) : (mkH (uB X j b)).2.2 (bo j + 1) = .inr (7, [.ref (bo j + 2), .int (b.1 0), .int (b.1 1), .int (b.1 2)]) := by
  rw [rdB hj (by decide)]
  show cB (bo j) (up X.1 j b j) 1 = _
  rw [up_self]; rfl
theorem rdi1 {X : GS} {j i : Nat} {b : BD} (hi : i < 11) (hij : ¬ i = j) : (mkH (uB X j b)).2.2 (bo i + 1) = .inr (7, [.ref (bo i + 2), .int ((X.1 i).1 0), .int ((X.1 i).1 1), .int ((X.1 i).1 2)]) := by
  rw [rdB hi (by decide)]
  show cB (bo i) (up X.1 j b i) 1 = _
  rw [up_ne hij]; rfl
theorem rdj2 {X : GS} {j : Nat} {b : BD} (hj : j < 11) : (mkH (uB X j b)).2.2 (bo j + 2) = .inl (0, 64, .inl (b.2 0)) := by
  rw [rdB hj (by decide)]
  show cB (bo j) (up X.1 j b j) 2 = _
  rw [up_self]; rfl
theorem rdi2 {X : GS} {j i : Nat} {b : BD} (hi : i < 11) (hij : ¬ i = j) : (mkH (uB X j b)).2.2 (bo i + 2) = .inl (0, 64, .inl ((X.1 i).2 0)) := by
  rw [rdB hi (by decide)]
  show cB (bo i) (up X.1 j b i) 2 = _
  rw [up_ne hij]; rfl
theorem rdj3 {X : GS} {j : Nat} {b : BD} (hj : j < 11) : (mkH (uB X j b)).2.2 (bo j + 3) = .inr (5, [.ref (bo j + 4), .ref (bo j + 5), .ref (bo j + 6), .ref (bo j + 7), .int (b.1 3)]) := by
  rw [rdB hj (by decide)]
  show cB (bo j) (up X.1 j b j) 3 = _
  rw [up_self]; rfl
theorem rdi3 {X : GS} {j i : Nat} {b : BD} (hi : i < 11) (hij : ¬ i = j) : (mkH (uB X j b)).2.2 (bo i + 3) = .inr (5, [.ref (bo i + 4), .ref (bo i + 5), .ref (bo i + 6), .ref (bo i + 7), .int ((X.1 i).1 3)]) := by
  rw [rdB hi (by decide)]
  show cB (bo i) (up X.1 j b i) 3 = _
  rw [up_ne hij]; rfl
theorem rdj4 {X : GS} {j : Nat} {b : BD} (hj : j < 11) : (mkH (uB X j b)).2.2 (bo j + 4) = .inl (0, 16, .inl (b.2 1)) := by
  rw [rdB hj (by decide)]
  show cB (bo j) (up X.1 j b j) 4 = _
  rw [up_self]; rfl
theorem rdi4 {X : GS} {j i : Nat} {b : BD} (hi : i < 11) (hij : ¬ i = j) : (mkH (uB X j b)).2.2 (bo i + 4) = .inl (0, 16, .inl ((X.1 i).2 1)) := by
  rw [rdB hi (by decide)]
  show cB (bo i) (up X.1 j b i) 4 = _
  rw [up_ne hij]; rfl
theorem rdj5 {X : GS} {j : Nat} {b : BD} (hj : j < 11) : (mkH (uB X j b)).2.2 (bo j + 5) = .inl (0, 16, .inl (b.2 2)) := by
  rw [rdB hj (by decide)]
  show cB (bo j) (up X.1 j b j) 5 = _
  rw [up_self]; rfl
theorem rdi5 {X : GS} {j i : Nat} {b : BD} (hi : i < 11) (hij : ¬ i = j) : (mkH (uB X j b)).2.2 (bo i + 5) = .inl (0, 16, .inl ((X.1 i).2 2)) := by
  rw [rdB hi (by decide)]
  show cB (bo i) (up X.1 j b i) 5 = _
  rw [up_ne hij]; rfl
theorem rdj6 {X : GS} {j : Nat} {b : BD} (hj : j < 11) : (mkH (uB X j b)).2.2 (bo j + 6) = .inl (0, 16, .inl (b.2 3)) := by
  rw [rdB hj (by decide)]
  show cB (bo j) (up X.1 j b j) 6 = _
  rw [up_self]; rfl
theorem rdi6 {X : GS} {j i : Nat} {b : BD} (hi : i < 11) (hij : ¬ i = j) : (mkH (uB X j b)).2.2 (bo i + 6) = .inl (0, 16, .inl ((X.1 i).2 3)) := by
  rw [rdB hi (by decide)]
  show cB (bo i) (up X.1 j b i) 6 = _
  rw [up_ne hij]; rfl
theorem rdj7 {X : GS} {j : Nat} {b : BD} (hj : j < 11) : (mkH (uB X j b)).2.2 (bo j + 7) = .inl (0, 16, .inl (b.2 4)) := by
  rw [rdB hj (by decide)]
  show cB (bo j) (up X.1 j b j) 7 = _
  rw [up_self]; rfl
theorem rdi7 {X : GS} {j i : Nat} {b : BD} (hi : i < 11) (hij : ¬ i = j) : (mkH (uB X j b)).2.2 (bo i + 7) = .inl (0, 16, .inl ((X.1 i).2 4)) := by
  rw [rdB hi (by decide)]
  show cB (bo i) (up X.1 j b i) 7 = _
  rw [up_ne hij]; rfl
theorem rdj8 {X : GS} {j : Nat} {b : BD} (hj : j < 11) : (mkH (uB X j b)).2.2 (bo j + 8) = .inr (8, [.ref (bo j + 9), .ref (bo j + 10), .int (b.1 4)]) := by
  rw [rdB hj (by decide)]
  show cB (bo j) (up X.1 j b j) 8 = _
  rw [up_self]; rfl
theorem rdi8 {X : GS} {j i : Nat} {b : BD} (hi : i < 11) (hij : ¬ i = j) : (mkH (uB X j b)).2.2 (bo i + 8) = .inr (8, [.ref (bo i + 9), .ref (bo i + 10), .int ((X.1 i).1 4)]) := by
  rw [rdB hi (by decide)]
  show cB (bo i) (up X.1 j b i) 8 = _
  rw [up_ne hij]; rfl
theorem rdj9 {X : GS} {j : Nat} {b : BD} (hj : j < 11) : (mkH (uB X j b)).2.2 (bo j + 9) = .inl (0, 6, .inl (b.2 5)) := by
  rw [rdB hj (by decide)]
  show cB (bo j) (up X.1 j b j) 9 = _
  rw [up_self]; rfl
theorem rdi9 {X : GS} {j i : Nat} {b : BD} (hi : i < 11) (hij : ¬ i = j) : (mkH (uB X j b)).2.2 (bo i + 9) = .inl (0, 6, .inl ((X.1 i).2 5)) := by
  rw [rdB hi (by decide)]
  show cB (bo i) (up X.1 j b i) 9 = _
  rw [up_ne hij]; rfl
theorem rdj10 {X : GS} {j : Nat} {b : BD} (hj : j < 11) : (mkH (uB X j b)).2.2 (bo j + 10) = .inl (0, 6, .inl (b.2 6)) := by
  rw [rdB hj (by decide)]
  show cB (bo j) (up X.1 j b j) 10 = _
  rw [up_self]; rfl
theorem rdi10 {X : GS} {j i : Nat} {b : BD} (hi : i < 11) (hij : ¬ i = j) : (mkH (uB X j b)).2.2 (bo i + 10) = .inl (0, 6, .inl ((X.1 i).2 6)) := by
  rw [rdB hi (by decide)]
  show cB (bo i) (up X.1 j b i) 10 = _
  rw [up_ne hij]; rfl
set_option maxRecDepth 20000 in
theorem s_X5_copyFrom (X : GS) (j i : Nat) (b : BD) (hj : j < 11) (hi : i < 11) (hij : ¬ i = j) : Ct 2 0 0 yX5_copyFrom (.code yX5_copyFrom cX5_copyFrom 2 none) [.ref (bo j + 1), .ref (bo i + 1)] (mkH (uB X j b)) (.inl none) (mkH (uB X j (cpP (X.1 i) b))) := by
  refine Ct.of (LL := [some (.ref (bo j + 1)), some (.ref (bo i + 1))]) mkX5_copyFrom.1 owX5_copyFrom rfl (Nat.le_of_ble_eq_true rfl) rfl (fun Wk C => ?_)
  have K := C.core
  refine K.aload_n (q := 1) dX5_copyFrom_0 rfl rfl ?_
  refine K.getf (q := 4) (v := .ref (bo i + 2)) fo_X5_9.r (rdi1 hi hij) (bo_lt hi (by decide)) rfl dX5_copyFrom_1 rfl ?_
  refine K.iconst (q := 5) (v := 0) dX5_copyFrom_4 rfl (by decide) ?_
  refine K.aload_n (q := 6) dX5_copyFrom_5 rfl rfl ?_
  refine K.getf (q := 9) (v := .ref (bo j + 2)) fo_X5_9.r (rdj1 hj) (bo_lt hj (by decide)) rfl dX5_copyFrom_6 rfl ?_
  refine K.iconst (q := 10) (v := 0) dX5_copyFrom_9 rfl (by decide) ?_
  refine K.bipush (q := 12) (v := 64) dX5_copyFrom_10 rfl (by decide) ?_
  refine K.copyi (q := 15) mw_X5_25 (bo_lt hi (by decide)) (bo_lt hj (by decide)) rfl (rdi2 hi hij) (rdj2 hj) (by decide) (by decide) (by decide) (by decide) (by decide) (by decide) (Nat.le_of_ble_eq_true rfl) ((congrArg (fun f => sH _ _ (.inl (0, 64, .inl f))) (cpy_eq (m := 64) (by decide))).trans (wba0 hj)) dX5_copyFrom_12 rfl ?_
  refine K.aload_n (q := 16) dX5_copyFrom_15 rfl rfl ?_
  refine K.aload_n (q := 17) dX5_copyFrom_16 rfl rfl ?_
  refine K.getf (q := 20) (v := .int ((X.1 i).1 0)) fo_X5_15.r (rdi1 hi hij) (bo_lt hi (by decide)) rfl dX5_copyFrom_17 rfl ?_
  refine K.putf (q := 23) fo_X5_15 (rdj1 hj) (bo_lt hj (by decide)) (Nat.le_of_ble_eq_true rfl) (fun _ => rfl) (fun _ => rfl) (wbs0 hj) dX5_copyFrom_20 rfl ?_
  refine K.aload_n (q := 24) dX5_copyFrom_23 rfl rfl ?_
  refine K.aload_n (q := 25) dX5_copyFrom_24 rfl rfl ?_
  refine K.getf (q := 28) (v := .int ((X.1 i).1 1)) fo_X5_19.r (rdi1 hi hij) (bo_lt hi (by decide)) rfl dX5_copyFrom_25 rfl ?_
  refine K.putf (q := 31) fo_X5_19 (rdj1 hj) (bo_lt hj (by decide)) (Nat.le_of_ble_eq_true rfl) (fun _ => rfl) (fun _ => rfl) (wbs1 hj) dX5_copyFrom_28 rfl ?_
  refine K.aload_n (q := 32) dX5_copyFrom_31 rfl rfl ?_
  refine K.aload_n (q := 33) dX5_copyFrom_32 rfl rfl ?_
  refine K.getf (q := 36) (v := .int ((X.1 i).1 2)) fo_X5_22.r (rdi1 hi hij) (bo_lt hi (by decide)) rfl dX5_copyFrom_33 rfl ?_
  refine K.putf (q := 39) fo_X5_22 (rdj1 hj) (bo_lt hj (by decide)) (Nat.le_of_ble_eq_true rfl) (fun _ => rfl) (fun _ => rfl) (wbs2 hj) dX5_copyFrom_36 rfl ?_
  exact C.vret rfl rfl rfl (Nat.le_of_ble_eq_true rfl) (Nat.le_of_ble_eq_true rfl) dX5_copyFrom_39
set_option maxRecDepth 20000 in
theorem s_X3_copyFrom (X : GS) (j i : Nat) (b : BD) (hj : j < 11) (hi : i < 11) (hij : ¬ i = j) : Ct 2 0 0 yX3_copyFrom (.code yX3_copyFrom cX3_copyFrom 2 none) [.ref (bo j + 3), .ref (bo i + 3)] (mkH (uB X j b)) (.inl none) (mkH (uB X j (cpL (X.1 i) b))) := by
  refine Ct.of (LL := [some (.ref (bo j + 3)), some (.ref (bo i + 3))]) mkX3_copyFrom.1 owX3_copyFrom rfl (Nat.le_of_ble_eq_true rfl) rfl (fun Wk C => ?_)
  have K := C.core
  refine K.aload_n (q := 1) dX3_copyFrom_0 rfl rfl ?_
  refine K.getf (q := 4) (v := .ref (bo i + 4)) fo_X3_9.r (rdi3 hi hij) (bo_lt hi (by decide)) rfl dX3_copyFrom_1 rfl ?_
  refine K.iconst (q := 5) (v := 0) dX3_copyFrom_4 rfl (by decide) ?_
  refine K.aload_n (q := 6) dX3_copyFrom_5 rfl rfl ?_
  refine K.getf (q := 9) (v := .ref (bo j + 4)) fo_X3_9.r (rdj3 hj) (bo_lt hj (by decide)) rfl dX3_copyFrom_6 rfl ?_
  refine K.iconst (q := 10) (v := 0) dX3_copyFrom_9 rfl (by decide) ?_
  refine K.bipush (q := 12) (v := 16) dX3_copyFrom_10 rfl (by decide) ?_
  refine K.copyi (q := 15) mw_X3_28 (bo_lt hi (by decide)) (bo_lt hj (by decide)) rfl (rdi4 hi hij) (rdj4 hj) (by decide) (by decide) (by decide) (by decide) (by decide) (by decide) (Nat.le_of_ble_eq_true rfl) ((congrArg (fun f => sH _ _ (.inl (0, 16, .inl f))) (cpy_eq (m := 16) (by decide))).trans (wba1 hj)) dX3_copyFrom_12 rfl ?_
  refine K.aload_n (q := 16) dX3_copyFrom_15 rfl rfl ?_
  refine K.getf (q := 19) (v := .ref (bo i + 5)) fo_X3_15.r (rdi3 hi hij) (bo_lt hi (by decide)) rfl dX3_copyFrom_16 rfl ?_
  refine K.iconst (q := 20) (v := 0) dX3_copyFrom_19 rfl (by decide) ?_
  refine K.aload_n (q := 21) dX3_copyFrom_20 rfl rfl ?_
  refine K.getf (q := 24) (v := .ref (bo j + 5)) fo_X3_15.r (rdj3 hj) (bo_lt hj (by decide)) rfl dX3_copyFrom_21 rfl ?_
  refine K.iconst (q := 25) (v := 0) dX3_copyFrom_24 rfl (by decide) ?_
  refine K.bipush (q := 27) (v := 16) dX3_copyFrom_25 rfl (by decide) ?_
  refine K.copyi (q := 30) mw_X3_28 (bo_lt hi (by decide)) (bo_lt hj (by decide)) rfl (rdi5 hi hij) (rdj5 hj) (by decide) (by decide) (by decide) (by decide) (by decide) (by decide) (Nat.le_of_ble_eq_true rfl) ((congrArg (fun f => sH _ _ (.inl (0, 16, .inl f))) (cpy_eq (m := 16) (by decide))).trans (wba2 hj)) dX3_copyFrom_27 rfl ?_
  refine K.aload_n (q := 31) dX3_copyFrom_30 rfl rfl ?_
  refine K.getf (q := 34) (v := .ref (bo i + 6)) fo_X3_18.r (rdi3 hi hij) (bo_lt hi (by decide)) rfl dX3_copyFrom_31 rfl ?_
  refine K.iconst (q := 35) (v := 0) dX3_copyFrom_34 rfl (by decide) ?_
  refine K.aload_n (q := 36) dX3_copyFrom_35 rfl rfl ?_
  refine K.getf (q := 39) (v := .ref (bo j + 6)) fo_X3_18.r (rdj3 hj) (bo_lt hj (by decide)) rfl dX3_copyFrom_36 rfl ?_
  refine K.iconst (q := 40) (v := 0) dX3_copyFrom_39 rfl (by decide) ?_
  refine K.bipush (q := 42) (v := 16) dX3_copyFrom_40 rfl (by decide) ?_
  refine K.copyi (q := 45) mw_X3_28 (bo_lt hi (by decide)) (bo_lt hj (by decide)) rfl (rdi6 hi hij) (rdj6 hj) (by decide) (by decide) (by decide) (by decide) (by decide) (by decide) (Nat.le_of_ble_eq_true rfl) ((congrArg (fun f => sH _ _ (.inl (0, 16, .inl f))) (cpy_eq (m := 16) (by decide))).trans (wba3 hj)) dX3_copyFrom_42 rfl ?_
  refine K.aload_n (q := 46) dX3_copyFrom_45 rfl rfl ?_
  refine K.getf (q := 49) (v := .ref (bo i + 7)) fo_X3_21.r (rdi3 hi hij) (bo_lt hi (by decide)) rfl dX3_copyFrom_46 rfl ?_
  refine K.iconst (q := 50) (v := 0) dX3_copyFrom_49 rfl (by decide) ?_
  refine K.aload_n (q := 51) dX3_copyFrom_50 rfl rfl ?_
  refine K.getf (q := 54) (v := .ref (bo j + 7)) fo_X3_21.r (rdj3 hj) (bo_lt hj (by decide)) rfl dX3_copyFrom_51 rfl ?_
  refine K.iconst (q := 55) (v := 0) dX3_copyFrom_54 rfl (by decide) ?_
  refine K.bipush (q := 57) (v := 16) dX3_copyFrom_55 rfl (by decide) ?_
  refine K.copyi (q := 60) mw_X3_28 (bo_lt hi (by decide)) (bo_lt hj (by decide)) rfl (rdi7 hi hij) (rdj7 hj) (by decide) (by decide) (by decide) (by decide) (by decide) (by decide) (Nat.le_of_ble_eq_true rfl) ((congrArg (fun f => sH _ _ (.inl (0, 16, .inl f))) (cpy_eq (m := 16) (by decide))).trans (wba4 hj)) dX3_copyFrom_57 rfl ?_
  refine K.aload_n (q := 61) dX3_copyFrom_60 rfl rfl ?_
  refine K.aload_n (q := 62) dX3_copyFrom_61 rfl rfl ?_
  refine K.getf (q := 65) (v := .int ((X.1 i).1 3)) fo_X3_24.r (rdi3 hi hij) (bo_lt hi (by decide)) rfl dX3_copyFrom_62 rfl ?_
  refine K.putf (q := 68) fo_X3_24 (rdj3 hj) (bo_lt hj (by decide)) (Nat.le_of_ble_eq_true rfl) (fun _ => rfl) (fun _ => rfl) (wbs3 hj) dX3_copyFrom_65 rfl ?_
  exact C.vret rfl rfl rfl (Nat.le_of_ble_eq_true rfl) (Nat.le_of_ble_eq_true rfl) dX3_copyFrom_68
set_option maxRecDepth 20000 in
theorem s_X6_copyFrom (X : GS) (j i : Nat) (b : BD) (hj : j < 11) (hi : i < 11) (hij : ¬ i = j) : Ct 2 0 0 yX6_copyFrom (.code yX6_copyFrom cX6_copyFrom 2 none) [.ref (bo j + 8), .ref (bo i + 8)] (mkH (uB X j b)) (.inl none) (mkH (uB X j (cpW (X.1 i) b))) := by
  refine Ct.of (LL := [some (.ref (bo j + 8)), some (.ref (bo i + 8))]) mkX6_copyFrom.1 owX6_copyFrom rfl (Nat.le_of_ble_eq_true rfl) rfl (fun Wk C => ?_)
  have K := C.core
  refine K.aload_n (q := 1) dX6_copyFrom_0 rfl rfl ?_
  refine K.getf (q := 4) (v := .ref (bo i + 9)) fo_X6_9.r (rdi8 hi hij) (bo_lt hi (by decide)) rfl dX6_copyFrom_1 rfl ?_
  refine K.iconst (q := 5) (v := 0) dX6_copyFrom_4 rfl (by decide) ?_
  refine K.aload_n (q := 6) dX6_copyFrom_5 rfl rfl ?_
  refine K.getf (q := 9) (v := .ref (bo j + 9)) fo_X6_9.r (rdj8 hj) (bo_lt hj (by decide)) rfl dX6_copyFrom_6 rfl ?_
  refine K.iconst (q := 10) (v := 0) dX6_copyFrom_9 rfl (by decide) ?_
  refine K.bipush (q := 12) (v := 6) dX6_copyFrom_10 rfl (by decide) ?_
  refine K.copyi (q := 15) mw_X6_22 (bo_lt hi (by decide)) (bo_lt hj (by decide)) rfl (rdi9 hi hij) (rdj9 hj) (by decide) (by decide) (by decide) (by decide) (by decide) (by decide) (Nat.le_of_ble_eq_true rfl) ((congrArg (fun f => sH _ _ (.inl (0, 6, .inl f))) (cpy_eq (m := 6) (by decide))).trans (wba5 hj)) dX6_copyFrom_12 rfl ?_
  refine K.aload_n (q := 16) dX6_copyFrom_15 rfl rfl ?_
  refine K.getf (q := 19) (v := .ref (bo i + 10)) fo_X6_15.r (rdi8 hi hij) (bo_lt hi (by decide)) rfl dX6_copyFrom_16 rfl ?_
  refine K.iconst (q := 20) (v := 0) dX6_copyFrom_19 rfl (by decide) ?_
  refine K.aload_n (q := 21) dX6_copyFrom_20 rfl rfl ?_
  refine K.getf (q := 24) (v := .ref (bo j + 10)) fo_X6_15.r (rdj8 hj) (bo_lt hj (by decide)) rfl dX6_copyFrom_21 rfl ?_
  refine K.iconst (q := 25) (v := 0) dX6_copyFrom_24 rfl (by decide) ?_
  refine K.bipush (q := 27) (v := 6) dX6_copyFrom_25 rfl (by decide) ?_
  refine K.copyi (q := 30) mw_X6_22 (bo_lt hi (by decide)) (bo_lt hj (by decide)) rfl (rdi10 hi hij) (rdj10 hj) (by decide) (by decide) (by decide) (by decide) (by decide) (by decide) (Nat.le_of_ble_eq_true rfl) ((congrArg (fun f => sH _ _ (.inl (0, 6, .inl f))) (cpy_eq (m := 6) (by decide))).trans (wba6 hj)) dX6_copyFrom_27 rfl ?_
  refine K.aload_n (q := 31) dX6_copyFrom_30 rfl rfl ?_
  refine K.aload_n (q := 32) dX6_copyFrom_31 rfl rfl ?_
  refine K.getf (q := 35) (v := .int ((X.1 i).1 4)) fo_X6_18.r (rdi8 hi hij) (bo_lt hi (by decide)) rfl dX6_copyFrom_32 rfl ?_
  refine K.putf (q := 38) fo_X6_18 (rdj8 hj) (bo_lt hj (by decide)) (Nat.le_of_ble_eq_true rfl) (fun _ => rfl) (fun _ => rfl) (wbs4 hj) dX6_copyFrom_35 rfl ?_
  exact C.vret rfl rfl rfl (Nat.le_of_ble_eq_true rfl) (Nat.le_of_ble_eq_true rfl) dX6_copyFrom_38
set_option maxRecDepth 20000 in
theorem s_X0_copyFrom (X : GS) (j i : Nat) (b : BD) (hj : j < 11) (hi : i < 11) (hij : ¬ i = j) : Ct 3 0 0 yX0_copyFrom (.code yX0_copyFrom cX0_copyFrom 2 none) [.ref (bo j), .ref (bo i)] (mkH (uB X j b)) (.inl none) (mkH (uB X j (cpB (X.1 i) b))) := by
  refine Ct.of (LL := [some (.ref (bo j + 0)), some (.ref (bo i + 0))]) mkX0_copyFrom.1 owX0_copyFrom rfl (Nat.le_of_ble_eq_true rfl) rfl (fun Wk C => ?_)
  have K := C.core
  refine K.aload_n (q := 1) dX0_copyFrom_0 rfl rfl ?_
  refine K.getf (q := 4) (v := .ref (bo j + 1)) fo_X0_12.r (rdj0 hj) (bo_lt hj (by decide)) rfl dX0_copyFrom_1 rfl ?_
  refine K.aload_n (q := 5) dX0_copyFrom_4 rfl rfl ?_
  refine K.getf (q := 8) (v := .ref (bo i + 1)) fo_X0_12.r (rdi0 hi hij) (bo_lt hi (by decide)) rfl dX0_copyFrom_5 rfl ?_
  refine K.callVv0 (q := 11) mkX5_copyFrom mw_X0_32 (s_X5_copyFrom X j i _ hj hi hij) rfl (by decide) rfl (bo_lt hj (by decide)) (rdj1 hj) (Nat.le_of_ble_eq_true rfl) (Nat.le_of_ble_eq_true rfl) (Nat.le_of_ble_eq_true rfl) dX0_copyFrom_8 rfl ?_
  refine K.aload_n (q := 12) dX0_copyFrom_11 rfl rfl ?_
  refine K.getf (q := 15) (v := .ref (bo j + 3)) fo_X0_21.r (rdj0 hj) (bo_lt hj (by decide)) rfl dX0_copyFrom_12 rfl ?_
  refine K.aload_n (q := 16) dX0_copyFrom_15 rfl rfl ?_
  refine K.getf (q := 19) (v := .ref (bo i + 3)) fo_X0_21.r (rdi0 hi hij) (bo_lt hi (by decide)) rfl dX0_copyFrom_16 rfl ?_
  refine K.callVv0 (q := 22) mkX3_copyFrom mw_X0_36 (s_X3_copyFrom X j i _ hj hi hij) rfl (by decide) rfl (bo_lt hj (by decide)) (rdj3 hj) (Nat.le_of_ble_eq_true rfl) (Nat.le_of_ble_eq_true rfl) (Nat.le_of_ble_eq_true rfl) dX0_copyFrom_19 rfl ?_
  refine K.aload_n (q := 23) dX0_copyFrom_22 rfl rfl ?_
  refine K.getf (q := 26) (v := .ref (bo j + 8)) fo_X0_28.r (rdj0 hj) (bo_lt hj (by decide)) rfl dX0_copyFrom_23 rfl ?_
  refine K.aload_n (q := 27) dX0_copyFrom_26 rfl rfl ?_
  refine K.getf (q := 30) (v := .ref (bo i + 8)) fo_X0_28.r (rdi0 hi hij) (bo_lt hi (by decide)) rfl dX0_copyFrom_27 rfl ?_
  refine K.callVv0 (q := 33) mkX6_copyFrom mw_X0_39 (s_X6_copyFrom X j i _ hj hi hij) rfl (by decide) rfl (bo_lt hj (by decide)) (rdj8 hj) (Nat.le_of_ble_eq_true rfl) (Nat.le_of_ble_eq_true rfl) (Nat.le_of_ble_eq_true rfl) dX0_copyFrom_30 rfl ?_
  exact C.vret rfl rfl rfl (Nat.le_of_ble_eq_true rfl) (Nat.le_of_ble_eq_true rfl) dX0_copyFrom_33