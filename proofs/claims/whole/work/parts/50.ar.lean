/-! ===== the pure part, 1: numbers ===== -/
def isP (s : Nat) : Prop := s = 1 ∨ s = 2 ∨ s = 4 ∨ s = 8 ∨ s = 16 ∨ s = 32 ∨ s = 64
def tw (u s : Nat) : Nat := if (u / s) % 2 = 0 then u - u % s + s else u - u % s - s
def nd (a : Nat) : Nat := if a ≤ 1 then 1 else if a ≤ 2 then 2 else if a ≤ 4 then 4 else if a ≤ 8 then 8 else if a ≤ 16 then 16 else if a ≤ 32 then 32 else 64
theorem isP_pos {s : Nat} (h : isP s) : 0 < s := by unfold isP at h; omega
theorem isP_le {s : Nat} (h : isP s) : s ≤ 64 := by unfold isP at h; omega
theorem isP_nd (a : Nat) : isP (nd a) := by unfold nd; (repeat' split) <;> (unfold isP; decide)
theorem nd_ge {a : Nat} (h : a ≤ 64) : a ≤ nd a := by unfold nd; (repeat' split) <;> omega
theorem nd_half {a : Nat} (h : 1 ≤ a) : nd a / 2 < a := by unfold nd; (repeat' split) <;> omega
theorem nd_pow {s : Nat} (h : isP s) : nd s = s := by rcases h with rfl | rfl | rfl | rfl | rfl | rfl | rfl <;> rfl
theorem isP_half {s : Nat} (h : isP s) (h1 : 1 < s) : isP (s / 2) := by
  rcases h with rfl | rfl | rfl | rfl | rfl | rfl | rfl <;> first | omega | (unfold isP; decide)
theorem isP_dbl {s : Nat} (h : isP s) (h1 : s < 64) : isP (2 * s) := by
  rcases h with rfl | rfl | rfl | rfl | rfl | rfl | rfl <;> first | omega | (unfold isP; decide)
theorem isP_lt {s t : Nat} (h : isP s) (h1 : isP t) (h2 : s < t) : s ≤ t / 2 := by
  unfold isP at h h1; omega
theorem nI_mul (a b : Nat) : nI a * nI b = nI (a * b) := (Int32.ofNat_mul a b).symm
theorem nI_sub {a b : Nat} (h : b ≤ a) : nI a - nI b = nI (a - b) := by
  have h1 : nI (a - b) + nI b = nI a := by rw [nI_add, Nat.sub_add_cancel h]
  rw [← h1, Int32.add_sub_cancel]
theorem nI_half {a : Nat} (h : a < 2 ^ 31) : nI a / 2 = nI (a / 2) := by
  apply Int32.toInt_inj.mp
  rw [Int32.toInt_div_of_ne_right _ _ (by decide), nI_toInt h, nI_toInt (by omega), show (2 : Int32).toInt = 2 from rfl]
  rw [Int.tdiv_eq_ediv_of_nonneg (by omega)]
  omega
theorem nI_div {a b : Nat} (h : a < 2 ^ 31) (hb : b < 2 ^ 31) : nI a / nI b = nI (a / b) := by
  by_cases hb1 : b = 1
  · subst hb1
    rw [Nat.div_one]
    show nI a / 1 = nI a
    simp
  · apply Int32.toInt_inj.mp
    have h3 : a / b ≤ a := Nat.div_le_self a b
    rw [Int32.toInt_div_of_ne_right _ _ (by intro e; have := congrArg Int32.toInt e; rw [nI_toInt hb] at this; simp at this), nI_toInt h, nI_toInt hb, nI_toInt (by omega)]
    rw [Int.tdiv_eq_ediv_of_nonneg (by omega)]
    omega
theorem partOf_all : ∀ u, u < 64 → ∀ s ∈ [1, 2, 4, 8, 16, 32, 64], r_X7_partOf (nI u) (nI s) = nI (u - u % s) := by decide +kernel
theorem twinOf_all : ∀ u, u < 64 → ∀ s ∈ [1, 2, 4, 8, 16, 32], r_X7_twinOf (nI u) (nI s) = nI (tw u s) := by decide +kernel
theorem xor_all : ∀ u, u < 64 → ∀ s ∈ [1, 2, 4, 8, 16, 32], u % s = 0 → nI u ^^^ nI s = nI (tw u s) := by decide +kernel
theorem need_all : ∀ a, a < 65 → 1 ≤ a → r_X7_needOf (nI a) = nI (nd a) := by decide +kernel
theorem mneed_all : ∀ a, a < 65 → 1 ≤ a → m_X8_need (nI a) = some (nI (nd a)) := by decide +kernel
theorem isP_mem {s : Nat} (h : isP s) : s ∈ [1, 2, 4, 8, 16, 32, 64] := by
  rcases h with rfl | rfl | rfl | rfl | rfl | rfl | rfl <;> decide
theorem isP_mem6 {s : Nat} (h : isP s) (h2 : s < 64) : s ∈ [1, 2, 4, 8, 16, 32] := by
  rcases h with rfl | rfl | rfl | rfl | rfl | rfl | rfl <;> first | decide | omega
theorem partOf_nI {u s : Nat} (hu : u < 64) (hs : isP s) : r_X7_partOf (nI u) (nI s) = nI (u - u % s) := partOf_all u hu s (isP_mem hs)
theorem twinOf_nI {u s : Nat} (hu : u < 64) (hs : isP s) (h : s < 64) : r_X7_twinOf (nI u) (nI s) = nI (tw u s) := twinOf_all u hu s (isP_mem6 hs h)
theorem xor_nI {u s : Nat} (hu : u < 64) (hs : isP s) (h : s < 64) (h0 : u % s = 0) : nI u ^^^ nI s = nI (tw u s) := xor_all u hu s (isP_mem6 hs h) h0
theorem need_nI {a : Nat} (h1 : 1 ≤ a) (h : a ≤ 64) : r_X7_needOf (nI a) = nI (nd a) := need_all a (by omega) h1
theorem mneed_nI {a : Nat} (h1 : 1 ≤ a) (h : a ≤ 64) : m_X8_need (nI a) = some (nI (nd a)) := mneed_all a (by omega) h1
theorem tw_lt {u s : Nat} (hu : u < 64) (hs : isP s) (h : s < 64) : tw u s < 64 := by
  unfold tw
  rcases hs with rfl | rfl | rfl | rfl | rfl | rfl | rfl <;> split <;> omega
theorem tw_mod {u s : Nat} (hs : isP s) : tw u s % s = 0 := by
  unfold tw
  rcases hs with rfl | rfl | rfl | rfl | rfl | rfl | rfl <;> split <;> omega
theorem tw_tw {u s : Nat} (hs : isP s) (h0 : u % s = 0) : tw (tw u s) s = u := by
  unfold tw
  rcases hs with rfl | rfl | rfl | rfl | rfl | rfl | rfl <;> split <;> split <;> omega
/-- the twin and its piece make up the part twice as large -/
theorem tw_cases {u s : Nat} (hs : isP s) (h0 : u % s = 0) : (u % (2 * s) = 0 ∧ tw u s = u + s) ∨ (u % (2 * s) = s ∧ tw u s + s = u) := by
  unfold tw
  rcases hs with rfl | rfl | rfl | rfl | rfl | rfl | rfl <;> split <;> omega
/-! written numbers -/
theorem neL {a k : Nat} {x : Int32} (hx : nI k = x) (ha : a < 2 ^ 31) (hk : k < 2 ^ 31) (h : ¬ a = k) : ¬ nI a = x := by subst hx; exact fun e => h ((nI_eq ha hk).mp e)
theorem eqL {a k : Nat} {x : Int32} (hx : nI k = x) (h : a = k) : nI a = x := by subst hx; rw [h]
theorem geL {a k : Nat} {x : Int32} (hx : nI k = x) (h : a < k) (hk : k < 2 ^ 31) : ¬ x ≤ nI a := by subst hx; exact nI_ge h hk
theorem leL {a k : Nat} {x : Int32} (hx : nI k = x) (h : k ≤ a) (ha : a < 2 ^ 31) : x ≤ nI a := by subst hx; exact nI_le h ha
theorem leR {a k : Nat} {x : Int32} (hx : nI k = x) (h : a ≤ k) (hk : k < 2 ^ 31) : nI a ≤ x := by subst hx; exact nI_le h hk
theorem nleR {a k : Nat} {x : Int32} (hx : nI k = x) (h : k < a) (ha : a < 2 ^ 31) : ¬ nI a ≤ x := by subst hx; exact nI_ge h ha
theorem ltR {a k : Nat} {x : Int32} (hx : nI k = x) (h : a < k) (hk : k < 2 ^ 31) : nI a < x := by subst hx; exact nI_lt h hk
theorem nltR {a k : Nat} {x : Int32} (hx : nI k = x) (h : k ≤ a) (ha : a < 2 ^ 31) : ¬ nI a < x := by subst hx; exact nI_nlt h ha
theorem ltL {a k : Nat} {x : Int32} (hx : nI k = x) (h : k < a) (ha : a < 2 ^ 31) : x < nI a := by subst hx; exact nI_lt h ha
theorem nltL {a k : Nat} {x : Int32} (hx : nI k = x) (h : a ≤ k) (hk : k < 2 ^ 31) : ¬ x < nI a := by subst hx; exact nI_nlt h hk
