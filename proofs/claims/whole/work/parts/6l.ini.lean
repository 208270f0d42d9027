/-! ===== the pure part, 31: as all begins ===== -/
def bdI : BD := (fun _ => 0, up (fun _ _ => 0) 0 (up (fun _ => 0) 0 64))
def gsI : GS := (fun _ => bdI, up (up (fun _ => 0) 7 (-1)) 14 (-1), up (fun _ _ => 0) 5 (up (fun _ => 0) 0 64), fun _ => 0, fun _ => 0)
def pI : Nat → Nat := fun u => if u = 0 then 64 else 0
def FI : Nat → Bool := fun u => decide (u = 0)
theorem pI_0 : pI 0 = 64 := rfl
theorem pI_n {u : Nat} (h : ¬ u = 0) : pI u = 0 := if_neg h
theorem FI_t {u : Nat} (h : FI u = true) : u = 0 := of_decide_eq_true h
theorem pI_ti : TI pI FI := by
  refine ⟨fun u hu => ?_, fun u hu => ⟨0, by omega, by rw [pI_0]; omega⟩, fun u v h1 h2 h3 => pI_n (by omega), fun u hu h => ?_, fun u hu h h2 => ?_⟩
  · by_cases h : u = 0
    · subst h
      right
      rw [pI_0]
      exact ⟨by unfold isP; decide, rfl⟩
    · exact Or.inl (pI_n h)
  · rw [FI_t h, pI_0]; decide
  · rw [FI_t h, pI_0] at h2; omega
theorem bd_ini : Bd bdI (up (fun _ => 0) 0 64) := by
  have g0 : ∀ u, up (fun _ => (0 : Int32)) 0 64 u = nI (pI u) := fun u => by
    unfold up pI
    by_cases h : u = 0
    · rw [if_pos h, if_pos h]; rfl
    · rw [if_neg h, if_neg h]; rfl
  have gz : ∀ u, ¬ u = 0 → up (fun _ => (0 : Int32)) 0 64 u = 0 := fun u h => up_ne h
  refine ⟨pI, FI, [], [], 0, ⟨⟨pI_ti, ?_, List.nodup_nil, fun q h => absurd h List.not_mem_nil, by decide, fun q h => absurd h List.not_mem_nil, by decide, by decide⟩, ⟨?_, rfl, rfl, rfl, fun l q h => by simp at h, fun l q h => by simp at h⟩, ⟨fun u _ => g0 u, gz 126 (by decide), gz 64 (by decide), gz 113 (by decide), fun l q h => by simp at h, fun l q h => by simp at h⟩, (gz 127 (by decide)).symm, (gz 128 (by decide)).symm⟩, fun q h => absurd h List.not_mem_nil⟩
  · intro u hu
    constructor
    · rintro ⟨h1, h2⟩
      unfold pI at h1
      unfold FI at h2
      by_cases h : u = 0
      · rw [decide_eq_true h] at h2; cases h2
      · rw [if_neg h] at h1; exact absurd rfl h1
    · rintro ⟨q, h, -⟩
      exact absurd h List.not_mem_nil
  · intro u hu
    show up (fun _ _ => (0 : Int32)) 0 (up (fun _ => 0) 0 64) 0 u = _
    unfold up FI pI
    rw [if_pos rfl]
    by_cases h : u = 0
    · rw [if_pos h, decide_eq_true h, if_pos rfl, if_pos h]; rfl
    · rw [if_neg h, decide_eq_false h, if_neg (by decide)]; rfl
theorem Ch_0 : Ch 0 := ⟨0, by decide, rfl⟩
theorem rel_ini : Rel gsI := by
  refine ⟨bd_ini, ⟨0, 0, by decide, by decide, rfl, rfl, rfl, fun i h => absurd h (by omega)⟩, ⟨rfl, Or.inl rfl⟩, rfl, rfl, rfl, ⟨0, by decide, rfl, rfl, fun i h => absurd h (by omega), fun i => Ch_0, fun i => Ch_0⟩, ⟨0, by decide, rfl, rfl, fun i h => absurd h (by omega)⟩⟩
