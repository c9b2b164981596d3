/-! ===== copied numbers ===== -/
theorem cop_sum {M : MM} {k i : Int} (h : ∀ i, 0 ≤ i → i < 20 → M (29 + 2 * k) i = M 44 (20 * k + i) ∧ 0 ≤ M 44 (20 * k + i) ∧ M 44 (20 * k + i) ≤ 100) (hi : (0 ≤ i ∧ i ≤ 3) ∧ 1 + i ≤ M 43 k) (h43 : 0 ≤ M 43 k ∧ M 43 k ≤ 20) : foldZ i (fun v j => wr (v + M (28 + 2 * k + 1) (j + 1))) 0 = sumZ i (fun j => M 44 (20 * k + (j + 1))) := by
  have key : ∀ c : Nat, (c : Int) ≤ 3 → foldZ (c : Int) (fun v j => wr (v + M (28 + 2 * k + 1) (j + 1))) 0 = sumZ (c : Int) (fun j => M 44 (20 * k + (j + 1))) ∧ 0 ≤ sumZ (c : Int) (fun j => M 44 (20 * k + (j + 1))) ∧ sumZ (c : Int) (fun j => M 44 (20 * k + (j + 1))) ≤ 100 * c := by
    intro c
    induction c with
    | zero => intro _; exact ⟨rfl, by show (0 : Int) ≤ 0; omega, by show (0 : Int) ≤ 100 * 0; omega⟩
    | succ c ih =>
      intro hc
      obtain ⟨h1, h2, h3⟩ := ih (by omega)
      have hz := h ((c : Int) + 1) (by omega) (by omega)
      rw [show ((c + 1 : Nat) : Int) = (c : Int) + 1 by omega, foldZ_s (by omega), sumZ_s (by omega), h1, show (28 : Int) + 2 * k + 1 = 29 + 2 * k by omega, hz.1, wr_in ⟨by omega, by omega⟩]
      refine ⟨rfl, ?_, ?_⟩
      · show 0 ≤ sumZ (c : Int) _ + M 44 (20 * k + ((c : Int) + 1)); omega
      · show sumZ (c : Int) _ + M 44 (20 * k + ((c : Int) + 1)) ≤ _; omega
  have := (key i.toNat (by omega)).1
  rw [show ((i.toNat : Nat) : Int) = i by omega] at this
  exact this
