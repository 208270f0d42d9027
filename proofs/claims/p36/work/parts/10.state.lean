/-! ===== THE STATE: what the 141 cells hold =====
cells: 0 CheeseTwins; boards 0..10 (11 cells each) at bo 0 = 1, bo 1 = 12, bo 2 = 23, bo (3 + k) = 36 + 11 k; 34 History, 35 its ring; 124 Line, 125 signs; 126 Orders, 127 kinds, 128 firsts, 129 seconds, 130 text;
131 the model, 132 g, 133 before, 134 history, 135 savedOnes, 136 input, 137 letters, 138 told; 139 out, 140 outD -/
abbrev BD : Type := (Nat → Int32) × (Nat → Nat → Int32)
abbrev GS : Type := (Nat → BD) × (Nat → Int32) × (Nat → Nat → Int32) × (Nat → Int64) × (Nat → UInt64)
def up {α : Type} (f : Nat → α) (k : Nat) (v : α) : Nat → α := fun i => if i = k then v else f i
/-- a board's scalars: 0 way, 1 halvings, 2 joinings, 3 loans, 4 waiting; its arrays: 0 sizes, 1 names, 2 amounts, 3 starts, 4 sizes of loans, 5 waiting names, 6 waiting amounts -/
def bS (b : BD) (k : Nat) (v : Int32) : BD := (up b.1 k v, b.2)
def bA (b : BD) (k : Nat) (f : Nat → Int32) : BD := (b.1, up b.2 k f)
def uB (X : GS) (j : Nat) (b : BD) : GS := (up X.1 j b, X.2)
/-- scalars: 0 next, 1 count (History), 2 length (Line), 3 count, 4 length, 5 at, 6 number (Orders), 7 lastError, 8 hasSnapshot, 9 reason, 10 detail; the model: 11 changes, 12 hasSaved, 13 typed, 14 errorAt, 15 why, 16 whyDetail, 17 isRefused, 18 lined, 19 thrown, 20 spot, 21 isWrong -/
def uS (X : GS) (k : Nat) (v : Int32) : GS := (X.1, up X.2.1 k v, X.2.2)
/-- arrays: 0 signs, 1 kinds, 2 firsts, 3 seconds, 4 text; the model: 5 g, 6 before, 7 history, 8 savedOnes, 9 input, 10 letters, 11 told -/
def uA (X : GS) (k : Nat) (f : Nat → Int32) : GS := (X.1, X.2.1, up X.2.2.1 k f, X.2.2.2)
def uO (X : GS) (f : Nat → Int64) : GS := (X.1, X.2.1, X.2.2.1, f, X.2.2.2.2)
def uD (X : GS) (f : Nat → UInt64) : GS := (X.1, X.2.1, X.2.2.1, X.2.2.2.1, f)
def bo (j : Nat) : Nat := if j < 3 then 1 + 11 * j else 3 + 11 * j
def bix (i : Nat) : Option (Nat × Nat) := if 1 ≤ i ∧ i < 34 then some ((i - 1) / 11, (i - 1) % 11) else if 36 ≤ i ∧ i < 124 then some (3 + (i - 36) / 11, (i - 36) % 11) else none
def cB (o : Nat) (b : BD) (c : Nat) : mC :=
  if c = 0 then .inr (2, [.ref (o + 1), .ref (o + 3), .ref (o + 8)])
  else if c = 1 then .inr (7, [.ref (o + 2), .int (b.1 0), .int (b.1 1), .int (b.1 2)])
  else if c = 2 then .inl (0, 64, .inl (b.2 0))
  else if c = 3 then .inr (5, [.ref (o + 4), .ref (o + 5), .ref (o + 6), .ref (o + 7), .int (b.1 3)])
  else if c = 4 then .inl (0, 16, .inl (b.2 1))
  else if c = 5 then .inl (0, 16, .inl (b.2 2))
  else if c = 6 then .inl (0, 16, .inl (b.2 3))
  else if c = 7 then .inl (0, 16, .inl (b.2 4))
  else if c = 8 then .inr (8, [.ref (o + 9), .ref (o + 10), .int (b.1 4)])
  else if c = 9 then .inl (0, 6, .inl (b.2 5))
  else .inl (0, 6, .inl (b.2 6))
def ring0 : Nat → Option Nat := fun k => if k < 8 then some (36 + 11 * k) else none
def c0 (s : Nat → Int32) : mC := .inr (9, [.ref 1, .ref 12, .ref 23, .ref 34, .ref 124, .ref 126, .int (s 7), .int (s 8), .int (s 9), .int (s 10)])
def c34 (s : Nat → Int32) : mC := .inr (3, [.ref 35, .int (s 0), .int (s 1)])
def c124 (s : Nat → Int32) : mC := .inr (4, [.ref 125, .int (s 2)])
def c126 (s : Nat → Int32) : mC := .inr (6, [.ref 127, .ref 128, .ref 129, .int (s 3), .ref 130, .int (s 4), .int (s 5), .int (s 6)])
def c131 (s : Nat → Int32) : mC := .inr (10, [.ref 132, .ref 133, .ref 134, .int (s 11), .ref 135, .int (s 12), .ref 136, .int (s 13), .int (s 14), .int (s 15), .int (s 16), .int (s 17), .ref 137, .int (s 18), .int (s 19), .int (s 20), .int (s 21), .ref 138])
/-- the cells that are no board's -/
def cR (s : Nat → Int32) (a : Nat → Nat → Int32) (o : Nat → Int64) (od : Nat → UInt64) (i : Nat) : mC :=
  if i = 0 then c0 s else if i = 34 then c34 s else if i = 35 then .inl (4, 8, .inr (.inr (.inr (.inr ring0))))
  else if i = 124 then c124 s else if i = 125 then .inl (1, 384, .inl (a 0))
  else if i = 126 then c126 s else if i = 127 then .inl (0, 20, .inl (a 1)) else if i = 128 then .inl (0, 20, .inl (a 2)) else if i = 129 then .inl (0, 20, .inl (a 3)) else if i = 130 then .inl (1, 60, .inl (a 4))
  else if i = 131 then c131 s else if i = 132 then .inl (0, 129, .inl (a 5)) else if i = 133 then .inl (0, 129, .inl (a 6)) else if i = 134 then .inl (0, 1032, .inl (a 7)) else if i = 135 then .inl (0, 129, .inl (a 8))
  else if i = 136 then .inl (1, 60, .inl (a 9)) else if i = 137 then .inl (1, 400, .inl (a 10)) else if i = 138 then .inl (0, 180, .inl (a 11))
  else if i = 139 then .inl (2, 1, .inr (.inl o)) else if i = 140 then .inl (3, 1, .inr (.inr (.inr (.inl od)))) else .inl (0, 0, .inl (fun _ => 0))
def cell (X : GS) (i : Nat) : mC := match bix i with
  | some (j, c) => cB (bo j) (X.1 j) c
  | none => cR X.2.1 X.2.2.1 X.2.2.2.1 X.2.2.2.2 i
def mkH (X : GS) : aH := (false, 131, cell X)
theorem up_self {α : Type} {f : Nat → α} {k : Nat} {v : α} : up f k v k = v := by simp [up]
theorem up_ne {α : Type} {f : Nat → α} {k i : Nat} {v : α} (h : ¬ i = k) : up f k v i = f i := by simp [up, h]
theorem up_up {α : Type} {f : Nat → α} {k : Nat} {v w : α} : up (up f k v) k w = up f k w := by
  funext i
  by_cases h : i = k
  · simp [up, h]
  · simp [up, h]
theorem up_eta {α : Type} {f : Nat → α} {k : Nat} : up f k (f k) = f := by
  funext i
  by_cases h : i = k
  · simp [up, h]
  · simp [up, h]
theorem uB_uB {X : GS} {j : Nat} {a b : BD} : uB (uB X j a) j b = uB X j b := by simp only [uB, up_up]
theorem uB_eta {X : GS} {j : Nat} : uB X j (X.1 j) = X := by simp only [uB, up_eta]
theorem bix_bo {j c : Nat} (hj : j < 11) (hc : c < 11) : bix (bo j + c) = some (j, c) := by
  unfold bix bo
  by_cases h : j < 3
  · rw [if_pos h, if_pos (by omega)]
    congr 2 <;> omega
  · rw [if_neg h, if_neg (by omega), if_pos (by omega)]
    congr 2 <;> omega
theorem bix_inv {i j c : Nat} (h : bix i = some (j, c)) : j < 11 ∧ c < 11 ∧ i = bo j + c := by
  unfold bix at h
  unfold bo
  split at h
  · simp only [Option.some.injEq, Prod.mk.injEq] at h
    obtain ⟨rfl, rfl⟩ := h
    refine ⟨by omega, by omega, ?_⟩
    rw [if_pos (by omega)]
    omega
  · split at h
    · simp only [Option.some.injEq, Prod.mk.injEq] at h
      obtain ⟨rfl, rfl⟩ := h
      refine ⟨by omega, by omega, ?_⟩
      rw [if_neg (by omega)]
      omega
    · cases h
/-- reading a cell of a board -/
theorem rdB {X : GS} {j c : Nat} (hj : j < 11) (hc : c < 11) : (mkH X).2.2 (bo j + c) = cB (bo j) (X.1 j) c := by
  show cell X (bo j + c) = _
  unfold cell
  rw [bix_bo hj hc]
/-- writing a cell of a board -/
theorem wrB {X : GS} {j c : Nat} {b b' : BD} (hj : j < 11) (hc : c < 11) (h : ∀ c', c' < 11 → ¬ c' = c → cB (bo j) b' c' = cB (bo j) b c') : sH (mkH (uB X j b)) (bo j + c) (cB (bo j) b' c) = mkH (uB X j b') := by
  unfold sH mkH
  congr 2
  funext i
  by_cases e : i = bo j + c
  · subst e
    rw [fu_self]
    show _ = cell _ _
    unfold cell
    rw [bix_bo hj hc]
    show _ = cB (bo j) (up X.1 j b' j) c
    rw [up_self]
  · rw [fu_ne e]
    show cell _ _ = cell _ _
    unfold cell
    cases hb : bix i with
    | none => rfl
    | some q =>
      obtain ⟨j', c'⟩ := q
      obtain ⟨h1, h2, h3⟩ := bix_inv hb
      show cB (bo j') (up X.1 j b j') c' = cB (bo j') (up X.1 j b' j') c'
      by_cases ej : j' = j
      · subst ej
        rw [up_self, up_self]
        exact (h c' h2 (fun z => e (by rw [h3, z]))).symm
      · rw [up_ne ej, up_ne ej]
/-- writing another cell -/
theorem wrR {X X' : GS} {i : Nat} {c : mC} (hi : bix i = none) (hB : X'.1 = X.1) (h1 : cR X'.2.1 X'.2.2.1 X'.2.2.2.1 X'.2.2.2.2 i = c) (h2 : ∀ i', ¬ i' = i → cR X'.2.1 X'.2.2.1 X'.2.2.2.1 X'.2.2.2.2 i' = cR X.2.1 X.2.2.1 X.2.2.2.1 X.2.2.2.2 i') : sH (mkH X) i c = mkH X' := by
  unfold sH mkH
  congr 2
  funext i'
  by_cases e : i' = i
  · subst e
    rw [fu_self]
    show _ = cell _ _
    unfold cell
    rw [hi, h1]
  · rw [fu_ne e]
    show cell _ _ = cell _ _
    unfold cell
    cases hb : bix i' with
    | none => exact (h2 i' e).symm
    | some q => rw [hB]
theorem wbs0 {X : GS} {j : Nat} {b : BD} {v : Int32} (hj : j < 11) : sH (mkH (uB X j b)) (bo j + 1) (.inr (7, [.ref (bo j + 2), .int v, .int (b.1 1), .int (b.1 2)])) = mkH (uB X j (bS b 0 v)) := by
  have h := wrB (X := X) (j := j) (c := 1) (b := b) (b' := bS b 0 v) hj (by omega) (fun c h1 h2 => ?_)
  · exact h
  · rcases (show c = 0 ∨ c = 1 ∨ c = 2 ∨ c = 3 ∨ c = 4 ∨ c = 5 ∨ c = 6 ∨ c = 7 ∨ c = 8 ∨ c = 9 ∨ c = 10 by omega) with rfl | rfl | rfl | rfl | rfl | rfl | rfl | rfl | rfl | rfl | rfl <;> first | rfl | exact absurd rfl h2
theorem wbs1 {X : GS} {j : Nat} {b : BD} {v : Int32} (hj : j < 11) : sH (mkH (uB X j b)) (bo j + 1) (.inr (7, [.ref (bo j + 2), .int (b.1 0), .int v, .int (b.1 2)])) = mkH (uB X j (bS b 1 v)) := by
  have h := wrB (X := X) (j := j) (c := 1) (b := b) (b' := bS b 1 v) hj (by omega) (fun c h1 h2 => ?_)
  · exact h
  · rcases (show c = 0 ∨ c = 1 ∨ c = 2 ∨ c = 3 ∨ c = 4 ∨ c = 5 ∨ c = 6 ∨ c = 7 ∨ c = 8 ∨ c = 9 ∨ c = 10 by omega) with rfl | rfl | rfl | rfl | rfl | rfl | rfl | rfl | rfl | rfl | rfl <;> first | rfl | exact absurd rfl h2
theorem wbs2 {X : GS} {j : Nat} {b : BD} {v : Int32} (hj : j < 11) : sH (mkH (uB X j b)) (bo j + 1) (.inr (7, [.ref (bo j + 2), .int (b.1 0), .int (b.1 1), .int v])) = mkH (uB X j (bS b 2 v)) := by
  have h := wrB (X := X) (j := j) (c := 1) (b := b) (b' := bS b 2 v) hj (by omega) (fun c h1 h2 => ?_)
  · exact h
  · rcases (show c = 0 ∨ c = 1 ∨ c = 2 ∨ c = 3 ∨ c = 4 ∨ c = 5 ∨ c = 6 ∨ c = 7 ∨ c = 8 ∨ c = 9 ∨ c = 10 by omega) with rfl | rfl | rfl | rfl | rfl | rfl | rfl | rfl | rfl | rfl | rfl <;> first | rfl | exact absurd rfl h2
theorem wbs3 {X : GS} {j : Nat} {b : BD} {v : Int32} (hj : j < 11) : sH (mkH (uB X j b)) (bo j + 3) (.inr (5, [.ref (bo j + 4), .ref (bo j + 5), .ref (bo j + 6), .ref (bo j + 7), .int v])) = mkH (uB X j (bS b 3 v)) := by
  have h := wrB (X := X) (j := j) (c := 3) (b := b) (b' := bS b 3 v) hj (by omega) (fun c h1 h2 => ?_)
  · exact h
  · rcases (show c = 0 ∨ c = 1 ∨ c = 2 ∨ c = 3 ∨ c = 4 ∨ c = 5 ∨ c = 6 ∨ c = 7 ∨ c = 8 ∨ c = 9 ∨ c = 10 by omega) with rfl | rfl | rfl | rfl | rfl | rfl | rfl | rfl | rfl | rfl | rfl <;> first | rfl | exact absurd rfl h2
theorem wbs4 {X : GS} {j : Nat} {b : BD} {v : Int32} (hj : j < 11) : sH (mkH (uB X j b)) (bo j + 8) (.inr (8, [.ref (bo j + 9), .ref (bo j + 10), .int v])) = mkH (uB X j (bS b 4 v)) := by
  have h := wrB (X := X) (j := j) (c := 8) (b := b) (b' := bS b 4 v) hj (by omega) (fun c h1 h2 => ?_)
  · exact h
  · rcases (show c = 0 ∨ c = 1 ∨ c = 2 ∨ c = 3 ∨ c = 4 ∨ c = 5 ∨ c = 6 ∨ c = 7 ∨ c = 8 ∨ c = 9 ∨ c = 10 by omega) with rfl | rfl | rfl | rfl | rfl | rfl | rfl | rfl | rfl | rfl | rfl <;> first | rfl | exact absurd rfl h2
theorem wba0 {X : GS} {j : Nat} {b : BD} {v : Nat → Int32} (hj : j < 11) : sH (mkH (uB X j b)) (bo j + 2) (.inl (0, 64, .inl v)) = mkH (uB X j (bA b 0 v)) := by
  have h := wrB (X := X) (j := j) (c := 2) (b := b) (b' := bA b 0 v) hj (by omega) (fun c h1 h2 => ?_)
  · exact h
  · rcases (show c = 0 ∨ c = 1 ∨ c = 2 ∨ c = 3 ∨ c = 4 ∨ c = 5 ∨ c = 6 ∨ c = 7 ∨ c = 8 ∨ c = 9 ∨ c = 10 by omega) with rfl | rfl | rfl | rfl | rfl | rfl | rfl | rfl | rfl | rfl | rfl <;> first | rfl | exact absurd rfl h2
theorem wba1 {X : GS} {j : Nat} {b : BD} {v : Nat → Int32} (hj : j < 11) : sH (mkH (uB X j b)) (bo j + 4) (.inl (0, 16, .inl v)) = mkH (uB X j (bA b 1 v)) := by
  have h := wrB (X := X) (j := j) (c := 4) (b := b) (b' := bA b 1 v) hj (by omega) (fun c h1 h2 => ?_)
  · exact h
  · rcases (show c = 0 ∨ c = 1 ∨ c = 2 ∨ c = 3 ∨ c = 4 ∨ c = 5 ∨ c = 6 ∨ c = 7 ∨ c = 8 ∨ c = 9 ∨ c = 10 by omega) with rfl | rfl | rfl | rfl | rfl | rfl | rfl | rfl | rfl | rfl | rfl <;> first | rfl | exact absurd rfl h2
theorem wba2 {X : GS} {j : Nat} {b : BD} {v : Nat → Int32} (hj : j < 11) : sH (mkH (uB X j b)) (bo j + 5) (.inl (0, 16, .inl v)) = mkH (uB X j (bA b 2 v)) := by
  have h := wrB (X := X) (j := j) (c := 5) (b := b) (b' := bA b 2 v) hj (by omega) (fun c h1 h2 => ?_)
  · exact h
  · rcases (show c = 0 ∨ c = 1 ∨ c = 2 ∨ c = 3 ∨ c = 4 ∨ c = 5 ∨ c = 6 ∨ c = 7 ∨ c = 8 ∨ c = 9 ∨ c = 10 by omega) with rfl | rfl | rfl | rfl | rfl | rfl | rfl | rfl | rfl | rfl | rfl <;> first | rfl | exact absurd rfl h2
theorem wba3 {X : GS} {j : Nat} {b : BD} {v : Nat → Int32} (hj : j < 11) : sH (mkH (uB X j b)) (bo j + 6) (.inl (0, 16, .inl v)) = mkH (uB X j (bA b 3 v)) := by
  have h := wrB (X := X) (j := j) (c := 6) (b := b) (b' := bA b 3 v) hj (by omega) (fun c h1 h2 => ?_)
  · exact h
  · rcases (show c = 0 ∨ c = 1 ∨ c = 2 ∨ c = 3 ∨ c = 4 ∨ c = 5 ∨ c = 6 ∨ c = 7 ∨ c = 8 ∨ c = 9 ∨ c = 10 by omega) with rfl | rfl | rfl | rfl | rfl | rfl | rfl | rfl | rfl | rfl | rfl <;> first | rfl | exact absurd rfl h2
theorem wba4 {X : GS} {j : Nat} {b : BD} {v : Nat → Int32} (hj : j < 11) : sH (mkH (uB X j b)) (bo j + 7) (.inl (0, 16, .inl v)) = mkH (uB X j (bA b 4 v)) := by
  have h := wrB (X := X) (j := j) (c := 7) (b := b) (b' := bA b 4 v) hj (by omega) (fun c h1 h2 => ?_)
  · exact h
  · rcases (show c = 0 ∨ c = 1 ∨ c = 2 ∨ c = 3 ∨ c = 4 ∨ c = 5 ∨ c = 6 ∨ c = 7 ∨ c = 8 ∨ c = 9 ∨ c = 10 by omega) with rfl | rfl | rfl | rfl | rfl | rfl | rfl | rfl | rfl | rfl | rfl <;> first | rfl | exact absurd rfl h2
theorem wba5 {X : GS} {j : Nat} {b : BD} {v : Nat → Int32} (hj : j < 11) : sH (mkH (uB X j b)) (bo j + 9) (.inl (0, 6, .inl v)) = mkH (uB X j (bA b 5 v)) := by
  have h := wrB (X := X) (j := j) (c := 9) (b := b) (b' := bA b 5 v) hj (by omega) (fun c h1 h2 => ?_)
  · exact h
  · rcases (show c = 0 ∨ c = 1 ∨ c = 2 ∨ c = 3 ∨ c = 4 ∨ c = 5 ∨ c = 6 ∨ c = 7 ∨ c = 8 ∨ c = 9 ∨ c = 10 by omega) with rfl | rfl | rfl | rfl | rfl | rfl | rfl | rfl | rfl | rfl | rfl <;> first | rfl | exact absurd rfl h2
theorem wba6 {X : GS} {j : Nat} {b : BD} {v : Nat → Int32} (hj : j < 11) : sH (mkH (uB X j b)) (bo j + 10) (.inl (0, 6, .inl v)) = mkH (uB X j (bA b 6 v)) := by
  have h := wrB (X := X) (j := j) (c := 10) (b := b) (b' := bA b 6 v) hj (by omega) (fun c h1 h2 => ?_)
  · exact h
  · rcases (show c = 0 ∨ c = 1 ∨ c = 2 ∨ c = 3 ∨ c = 4 ∨ c = 5 ∨ c = 6 ∨ c = 7 ∨ c = 8 ∨ c = 9 ∨ c = 10 by omega) with rfl | rfl | rfl | rfl | rfl | rfl | rfl | rfl | rfl | rfl | rfl <;> first | rfl | exact absurd rfl h2
theorem ws0 {X : GS} {v : Int32} : sH (mkH X) 34 (c34 (up X.2.1 0 v)) = mkH (uS X 0 v) := wrR rfl rfl rfl (fun i h => by unfold cR; simp only [h, if_false]; rfl)
theorem ws1 {X : GS} {v : Int32} : sH (mkH X) 34 (c34 (up X.2.1 1 v)) = mkH (uS X 1 v) := wrR rfl rfl rfl (fun i h => by unfold cR; simp only [h, if_false]; rfl)
theorem ws2 {X : GS} {v : Int32} : sH (mkH X) 124 (c124 (up X.2.1 2 v)) = mkH (uS X 2 v) := wrR rfl rfl rfl (fun i h => by unfold cR; simp only [h, if_false]; rfl)
theorem ws3 {X : GS} {v : Int32} : sH (mkH X) 126 (c126 (up X.2.1 3 v)) = mkH (uS X 3 v) := wrR rfl rfl rfl (fun i h => by unfold cR; simp only [h, if_false]; rfl)
theorem ws4 {X : GS} {v : Int32} : sH (mkH X) 126 (c126 (up X.2.1 4 v)) = mkH (uS X 4 v) := wrR rfl rfl rfl (fun i h => by unfold cR; simp only [h, if_false]; rfl)
theorem ws5 {X : GS} {v : Int32} : sH (mkH X) 126 (c126 (up X.2.1 5 v)) = mkH (uS X 5 v) := wrR rfl rfl rfl (fun i h => by unfold cR; simp only [h, if_false]; rfl)
theorem ws6 {X : GS} {v : Int32} : sH (mkH X) 126 (c126 (up X.2.1 6 v)) = mkH (uS X 6 v) := wrR rfl rfl rfl (fun i h => by unfold cR; simp only [h, if_false]; rfl)
theorem ws7 {X : GS} {v : Int32} : sH (mkH X) 0 (c0 (up X.2.1 7 v)) = mkH (uS X 7 v) := wrR rfl rfl rfl (fun i h => by unfold cR; simp only [h, if_false]; rfl)
theorem ws8 {X : GS} {v : Int32} : sH (mkH X) 0 (c0 (up X.2.1 8 v)) = mkH (uS X 8 v) := wrR rfl rfl rfl (fun i h => by unfold cR; simp only [h, if_false]; rfl)
theorem ws9 {X : GS} {v : Int32} : sH (mkH X) 0 (c0 (up X.2.1 9 v)) = mkH (uS X 9 v) := wrR rfl rfl rfl (fun i h => by unfold cR; simp only [h, if_false]; rfl)
theorem ws10 {X : GS} {v : Int32} : sH (mkH X) 0 (c0 (up X.2.1 10 v)) = mkH (uS X 10 v) := wrR rfl rfl rfl (fun i h => by unfold cR; simp only [h, if_false]; rfl)
theorem ws11 {X : GS} {v : Int32} : sH (mkH X) 131 (c131 (up X.2.1 11 v)) = mkH (uS X 11 v) := wrR rfl rfl rfl (fun i h => by unfold cR; simp only [h, if_false]; rfl)
theorem ws12 {X : GS} {v : Int32} : sH (mkH X) 131 (c131 (up X.2.1 12 v)) = mkH (uS X 12 v) := wrR rfl rfl rfl (fun i h => by unfold cR; simp only [h, if_false]; rfl)
theorem ws13 {X : GS} {v : Int32} : sH (mkH X) 131 (c131 (up X.2.1 13 v)) = mkH (uS X 13 v) := wrR rfl rfl rfl (fun i h => by unfold cR; simp only [h, if_false]; rfl)
theorem ws14 {X : GS} {v : Int32} : sH (mkH X) 131 (c131 (up X.2.1 14 v)) = mkH (uS X 14 v) := wrR rfl rfl rfl (fun i h => by unfold cR; simp only [h, if_false]; rfl)
theorem ws15 {X : GS} {v : Int32} : sH (mkH X) 131 (c131 (up X.2.1 15 v)) = mkH (uS X 15 v) := wrR rfl rfl rfl (fun i h => by unfold cR; simp only [h, if_false]; rfl)
theorem ws16 {X : GS} {v : Int32} : sH (mkH X) 131 (c131 (up X.2.1 16 v)) = mkH (uS X 16 v) := wrR rfl rfl rfl (fun i h => by unfold cR; simp only [h, if_false]; rfl)
theorem ws17 {X : GS} {v : Int32} : sH (mkH X) 131 (c131 (up X.2.1 17 v)) = mkH (uS X 17 v) := wrR rfl rfl rfl (fun i h => by unfold cR; simp only [h, if_false]; rfl)
theorem ws18 {X : GS} {v : Int32} : sH (mkH X) 131 (c131 (up X.2.1 18 v)) = mkH (uS X 18 v) := wrR rfl rfl rfl (fun i h => by unfold cR; simp only [h, if_false]; rfl)
theorem ws19 {X : GS} {v : Int32} : sH (mkH X) 131 (c131 (up X.2.1 19 v)) = mkH (uS X 19 v) := wrR rfl rfl rfl (fun i h => by unfold cR; simp only [h, if_false]; rfl)
theorem ws20 {X : GS} {v : Int32} : sH (mkH X) 131 (c131 (up X.2.1 20 v)) = mkH (uS X 20 v) := wrR rfl rfl rfl (fun i h => by unfold cR; simp only [h, if_false]; rfl)
theorem ws21 {X : GS} {v : Int32} : sH (mkH X) 131 (c131 (up X.2.1 21 v)) = mkH (uS X 21 v) := wrR rfl rfl rfl (fun i h => by unfold cR; simp only [h, if_false]; rfl)
theorem wa0 {X : GS} {v : Nat → Int32} : sH (mkH X) 125 (.inl (1, 384, .inl v)) = mkH (uA X 0 v) := wrR rfl rfl rfl (fun i h => by unfold cR; simp only [h, if_false]; rfl)
theorem wa1 {X : GS} {v : Nat → Int32} : sH (mkH X) 127 (.inl (0, 20, .inl v)) = mkH (uA X 1 v) := wrR rfl rfl rfl (fun i h => by unfold cR; simp only [h, if_false]; rfl)
theorem wa2 {X : GS} {v : Nat → Int32} : sH (mkH X) 128 (.inl (0, 20, .inl v)) = mkH (uA X 2 v) := wrR rfl rfl rfl (fun i h => by unfold cR; simp only [h, if_false]; rfl)
theorem wa3 {X : GS} {v : Nat → Int32} : sH (mkH X) 129 (.inl (0, 20, .inl v)) = mkH (uA X 3 v) := wrR rfl rfl rfl (fun i h => by unfold cR; simp only [h, if_false]; rfl)
theorem wa4 {X : GS} {v : Nat → Int32} : sH (mkH X) 130 (.inl (1, 60, .inl v)) = mkH (uA X 4 v) := wrR rfl rfl rfl (fun i h => by unfold cR; simp only [h, if_false]; rfl)
theorem wa5 {X : GS} {v : Nat → Int32} : sH (mkH X) 132 (.inl (0, 129, .inl v)) = mkH (uA X 5 v) := wrR rfl rfl rfl (fun i h => by unfold cR; simp only [h, if_false]; rfl)
theorem wa6 {X : GS} {v : Nat → Int32} : sH (mkH X) 133 (.inl (0, 129, .inl v)) = mkH (uA X 6 v) := wrR rfl rfl rfl (fun i h => by unfold cR; simp only [h, if_false]; rfl)
theorem wa7 {X : GS} {v : Nat → Int32} : sH (mkH X) 134 (.inl (0, 1032, .inl v)) = mkH (uA X 7 v) := wrR rfl rfl rfl (fun i h => by unfold cR; simp only [h, if_false]; rfl)
theorem wa8 {X : GS} {v : Nat → Int32} : sH (mkH X) 135 (.inl (0, 129, .inl v)) = mkH (uA X 8 v) := wrR rfl rfl rfl (fun i h => by unfold cR; simp only [h, if_false]; rfl)
theorem wa9 {X : GS} {v : Nat → Int32} : sH (mkH X) 136 (.inl (1, 60, .inl v)) = mkH (uA X 9 v) := wrR rfl rfl rfl (fun i h => by unfold cR; simp only [h, if_false]; rfl)
theorem wa10 {X : GS} {v : Nat → Int32} : sH (mkH X) 137 (.inl (1, 400, .inl v)) = mkH (uA X 10 v) := wrR rfl rfl rfl (fun i h => by unfold cR; simp only [h, if_false]; rfl)
theorem wa11 {X : GS} {v : Nat → Int32} : sH (mkH X) 138 (.inl (0, 180, .inl v)) = mkH (uA X 11 v) := wrR rfl rfl rfl (fun i h => by unfold cR; simp only [h, if_false]; rfl)
theorem wo139 {X : GS} {v : Nat → Int64} : sH (mkH X) 139 (.inl (2, 1, .inr (.inl v))) = mkH (uO X v) := wrR rfl rfl rfl (fun i h => by unfold cR; simp only [h, if_false]; rfl)
theorem wd140 {X : GS} {v : Nat → UInt64} : sH (mkH X) 140 (.inl (3, 1, .inr (.inr (.inr (.inl v))))) = mkH (uD X v) := wrR rfl rfl rfl (fun i h => by unfold cR; simp only [h, if_false]; rfl)
