/-! ===== copied numbers ===== -/
theorem cop_sum {M : MM} {k i : Int} (h : ∀ i, 0 ≤ i → i < 20 → M (29 + 2 * k) i = M 44 (20 * k + i) ∧ 0 ≤ M 44 (20 * k + i) ∧ M 44 (20 * k + i) ≤ 100) (hi : (0 ≤ i ∧ i ≤ 3) ∧ 1 + i ≤ M 43 k) (h43 : 0 ≤ M 43 k ∧ M 43 k ≤ 20) : foldZ i (fun v j => wr (v + M (28 + 2 * k + 1) (j + 1))) 0 = sumZ i (fun j => M 44 (20 * k + (j + 1))) := by
  have key : ∀ c : Nat, (c : Int) ≤ 3 → foldZ (c : Int) (fun v j => wr (v + M (28 + 2 * k + 1) (j + 1))) 0 = sumZ (c : Int) (fun j => M 44 (20 * k + (j + 1))) ∧ 0 ≤ sumZ (c : Int) (fun j => M 44 (20 * k + (j + 1))) ∧ sumZ (c : Int) (fun j => M 44 (20 * k + (j + 1))) ≤ 100 * c := by
    intro c
    induction c with
    | zero => intro _; exact ⟨rfl, by show (0 : Int) ≤ 0; omega, by show (0 : Int) ≤ 100 * 0; omega⟩
    | succ c ih =>
      intro hc
      obtain ⟨h1, h2, h3⟩ := ih (by omega)
      have hz := h ((c : Int) + 1) (by omega) (by omega)
      rw [show ((c + 1 : Nat) : Int) = (c : Int) + 1 by omega, foldZ_s (by omega), sumZ_s (by omega), h1, show (28 : Int) + 2 * k + 1 = 29 + 2 * k by omega, hz.1, wr_in ⟨by omega, by omega⟩]
      refine ⟨rfl, ?_, ?_⟩
      · show 0 ≤ sumZ (c : Int) _ + M 44 (20 * k + ((c : Int) + 1)); omega
      · show sumZ (c : Int) _ + M 44 (20 * k + ((c : Int) + 1)) ≤ _; omega
  have := (key i.toNat (by omega)).1
  rw [show ((i.toNat : Nat) : Int) = i by omega] at this
  exact this

def rsW (M : MM) (k i : Int) : Int := if M 42 k = -1 then 10 else if M 42 k ≠ 1 then 11 else if 0 ≤ i ∧ i < M 43 k then 0 else 12
def cbW (M : MM) (k i : Int) : Int := if M 42 k = -1 then 10 else if M 42 k ≠ 0 then 11 else if (0 ≤ i ∧ i ≤ 3) ∧ 1 + i ≤ M 43 k then 0 else 12
theorem rsW_0 {M : MM} {k i : Int} (h : rsW M k i = 0) : 0 ≤ i ∧ i < M 43 k := by
  unfold rsW at h; split at h; omega; split at h; omega; split at h; assumption; omega
theorem cbW_0 {M : MM} {k i : Int} (h : cbW M k i = 0) : (0 ≤ i ∧ i ≤ 3) ∧ 1 + i ≤ M 43 k := by
  unfold cbW at h; split at h; omega; split at h; omega; split at h; assumption; omega
theorem rsW_w {M : MM} {k i w : Int} (hw : w = (if M 42 k = -1 then 10 else if M 42 k = 1 then 0 else 11)) (h0 : ¬ w = 0) : w = rsW M k i := by
  unfold rsW; rw [hw] at h0 ⊢; by_cases h1 : M 42 k = -1
  · rw [if_pos h1, if_pos h1]
  · rw [if_neg h1] at h0 ⊢; rw [if_neg h1]; by_cases h2 : M 42 k = 1
    · rw [if_pos h2] at h0; exact absurd rfl h0
    · rw [if_neg h2, if_pos h2]
theorem cbW_w {M : MM} {k i w : Int} (hw : w = (if M 42 k = -1 then 10 else if M 42 k = 0 then 0 else 11)) (h0 : ¬ w = 0) : w = cbW M k i := by
  unfold cbW; rw [hw] at h0 ⊢; by_cases h1 : M 42 k = -1
  · rw [if_pos h1, if_pos h1]
  · rw [if_neg h1] at h0 ⊢; rw [if_neg h1]; by_cases h2 : M 42 k = 0
    · rw [if_pos h2] at h0; exact absurd rfl h0
    · rw [if_neg h2, if_pos h2]
theorem rsW_v {M : MM} {k i w : Int} (hw : w = (if M 42 k = -1 then 10 else if M 42 k = 1 then 0 else 11)) (h0 : w = 0) : (0 ≤ i ∧ i < M 43 k → 0 = rsW M k i) ∧ (¬ (0 ≤ i ∧ i < M 43 k) → 12 = rsW M k i) := by
  unfold rsW; rw [hw] at h0; by_cases h1 : M 42 k = -1
  · rw [if_pos h1] at h0; omega
  · rw [if_neg h1] at h0; by_cases h2 : M 42 k = 1
    · rw [if_neg h1, if_neg (show ¬ M 42 k ≠ 1 by omega)]; exact ⟨fun h => (if_pos h).symm, fun h => (if_neg h).symm⟩
    · rw [if_neg h2] at h0; omega
theorem cbW_v {M : MM} {k i w : Int} (hw : w = (if M 42 k = -1 then 10 else if M 42 k = 0 then 0 else 11)) (h0 : w = 0) : ((0 ≤ i ∧ i ≤ 3) ∧ 1 + i ≤ M 43 k → 0 = cbW M k i) ∧ (¬ ((0 ≤ i ∧ i ≤ 3) ∧ 1 + i ≤ M 43 k) → 12 = cbW M k i) := by
  unfold cbW; rw [hw] at h0; by_cases h1 : M 42 k = -1
  · rw [if_pos h1] at h0; omega
  · rw [if_neg h1] at h0; by_cases h2 : M 42 k = 0
    · rw [if_neg h1, if_neg (show ¬ M 42 k ≠ 0 by omega)]; exact ⟨fun h => (if_pos h).symm, fun h => (if_neg h).symm⟩
    · rw [if_neg h2] at h0; omega
