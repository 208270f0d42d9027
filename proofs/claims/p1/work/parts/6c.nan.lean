/-! ===== the pure part, 23: no NaN ===== -/
theorem nan64_all : ∀ a, a < 1025 → ∀ c, c < 17 → 1 ≤ c → FP.ddiv (FP.i2d (nI a)) (FP.i2d (nI c)) &&& 0x7fffffffffffffff ≤ 0x7ff0000000000000 := by decide +kernel
theorem nan32_all : ∀ a, a < 1025 → FP.fdiv (FP.i2f (nI a)) 1115684864 &&& 0x7fffffff ≤ 0x7f800000 := by decide +kernel
