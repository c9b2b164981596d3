/-! ===== small products ===== -/
theorem mul_b {v a b : Int} (h0 : 0 ≤ v) (h1 : v < a) (ha : a ≤ 10) (hb : 0 ≤ b ∧ b ≤ 10) : 0 ≤ v * b ∧ v * b ≤ 100 := ⟨Int.mul_nonneg h0 hb.1, by have := Int.mul_le_mul (show v ≤ 10 by omega) hb.2 hb.1 (by omega : (0 : Int) ≤ 10); omega⟩
theorem mul_b2 {a b : Int} (ha : 0 ≤ a ∧ a ≤ 10) (hb : 0 ≤ b ∧ b ≤ 10) : 0 ≤ a * b ∧ a * b ≤ 100 := ⟨Int.mul_nonneg ha.1 hb.1, by have := Int.mul_le_mul ha.2 hb.2 hb.1 (by omega : (0 : Int) ≤ 10); omega⟩
