/-! ===== what told answers ===== -/
def truR (m : Int) (d : Int → Int) (w : Int) : Int := if w = 9 then B (latt m d) else if w = 10 then B (latt m d && decide (une m d = -1)) else if w = 11 then B (decide (bentM m d = -1)) else if w = 12 then B (twR m d).isSome else -1
def toldR (kd m : Int) (d : Int → Int) (w : Int) : Int := if w = 0 then kd else if w = 1 then m else if w = 2 then prs m d else if w = 3 then nxs m d else if w = 4 then lowN m d else if w = 5 then cnt (wide m d) else if w = 6 then hgt m d else if w = 7 then tl m d 0 else if w = 8 then jmB m d else truR m d w
theorem TW.off_sc {M M1 : MM} (h : TW M) (hs : sc M M1) : TW M1 := by
  have e36 : M1 36 = M 36 := hs 36 (by omega)
  have e38 : M1 38 = M 38 := hs 38 (by omega)
  have e52 : M1 52 = M 52 := hs 52 (by omega)
  have e53 : M1 53 = M 53 := hs 53 (by omega)
  have ed : ∀ o, dM M1 o = dM M o := fun o => dM_off hs o
  unfold TW TWk at h ⊢
  rw [e36, e38, e52, e53, ed]
  exact h
theorem TW.of {M M1 : MM} {o : Int} (hs : sd M M1) (ho : isOr M o = true) (h : M1 36 21 = 1 ∧ M1 36 22 = o ∧ M1 36 23 = B (twR (M 38 o) (dM M o)).isSome ∧ ∀ z, twR (M 38 o) (dM M o) = some z → ∀ i, 0 ≤ i → i < M 38 o → M1 52 i = z i ∧ M1 53 i = secV (M 38 o) (dM M o) z i) : TW M1 := by
  right
  refine ⟨h.1, ?_, ?_⟩
  · rw [h.2.1, hs.2 0 (by omega)]
    unfold isOr at ho
    simp at ho
    omega
  · rw [h.2.1]
    unfold TWk
    rw [show M1 38 = M 38 from hs.1 38 (by omega) (by omega), show dM M1 o = dM M o from by unfold dM; rw [hs.1 39 (by omega) (by omega)]]
    exact h.2.2
