/-! ===== forging ===== -/
theorem odd_and {q : Int} (h : -100 ≤ q ∧ q ≤ 100) : zand q 1 = 0 ↔ mdl q 2 = 0 := by
  have key : ∀ k : Fin 201, zand ((k.val : Int) - 100) 1 = 0 ↔ mdl ((k.val : Int) - 100) 2 = 0 := by decide +kernel
  have := key ⟨(q + 100).toNat, by omega⟩
  rw [show (((q + 100).toNat : Nat) : Int) - 100 = q by omega] at this
  exact this
theorem rsW_v2 {M : MM} {k i : Int} : (if rsW M k i = 0 then M 44 (20 * k + i) else -1) = (if M 42 k = -1 then -1 else if M 42 k ≠ 1 then -1 else if 0 ≤ i ∧ i < M 43 k then M 44 (20 * k + i) else -1) := by
  unfold rsW; by_cases h1 : M 42 k = -1
  · rw [if_pos h1, if_pos h1]; rfl
  · rw [if_neg h1, if_neg h1]; by_cases h2 : M 42 k ≠ 1
    · rw [if_pos h2, if_pos h2]; rfl
    · rw [if_neg h2, if_neg h2]; by_cases h3 : 0 ≤ i ∧ i < M 43 k
      · rw [if_pos h3, if_pos h3]; rfl
      · rw [if_neg h3, if_neg h3]; rfl
theorem cbW_v2 {M : MM} {k i v : Int} : (if cbW M k i = 0 then v else -1) = (if M 42 k = -1 then -1 else if M 42 k ≠ 0 then -1 else if (0 ≤ i ∧ i ≤ 3) ∧ 1 + i ≤ M 43 k then v else -1) := by
  unfold cbW; by_cases h1 : M 42 k = -1
  · rw [if_pos h1, if_pos h1]; rfl
  · rw [if_neg h1, if_neg h1]; by_cases h2 : M 42 k ≠ 0
    · rw [if_pos h2, if_pos h2]; rfl
    · rw [if_neg h2, if_neg h2]; by_cases h3 : (0 ≤ i ∧ i ≤ 3) ∧ 1 + i ≤ M 43 k
      · rw [if_pos h3, if_pos h3]; rfl
      · rw [if_neg h3, if_neg h3]; rfl
