/-! ===== finding a round, step by step ===== -/
section FAR
variable {m : Int} {d : Int → Int} {a : Int} {F : XX}
theorem isFar_b (hm : m ≤ 10) (h : isFar m d a F) {c : Int} (hc : 0 ≤ c ∧ c < m) : 0 ≤ F c ∧ F c ≤ 100 := by
  rcases h c hc.1 hc.2 with q | ⟨q0, q1, _⟩ <;> omega
theorem far_0 (h : ∀ c, 0 ≤ c → c < m → F c = if c = a then 0 else 100) : isFar m d a F ∧ ∀ c, 0 ≤ c → c < m → hasFar m d a F c 0 := by
  refine ⟨fun c h0 h1 => ?_, fun c h0 h1 k hk hw => ?_⟩
  · rw [h c h0 h1]
    by_cases hc : c = a
    · rw [if_pos hc]; right; exact ⟨by omega, by omega, wkz.mpr hc⟩
    · rw [if_neg hc]; left; rfl
  · rw [show k = 0 by omega] at hw
    rw [h c h0 h1, if_pos (wkz.mp hw)]
    omega
theorem far_up (hP : PO m d) (ha : 0 ≤ a ∧ a < m) (hI : isFar m d a F) {v w j : Int} (hv : 0 ≤ v ∧ v < m) (hw : 0 ≤ w ∧ w < m) (hj : j = F v ∨ (nxt m d v w = true ∧ j = F w + 1 ∧ j < F v)) : isFar m d a (up F v j) := by
  intro c h0 h1
  by_cases hc : c = v
  · rw [hc, show up F v j v = j from if_pos rfl]
    rcases hj with hj | ⟨g1, g2, g3⟩
    · rw [hj]; exact hI v hv.1 hv.2
    · have hb := isFar_b hP.1.1.2 hI hv
      rcases hI w hw.1 hw.2 with q | ⟨q0, q1, q2⟩
      · omega
      · right
        have : wkN m d j.toNat v a = true := by
          rw [show j.toNat = (F w).toNat + 1 by omega]
          exact wk_s.mpr ⟨w, hw.1, hw.2, g1, q2⟩
        have h2 := wk_le hP hv ha this
        exact ⟨by omega, by omega, this⟩
  · rw [show up F v j c = F c from if_neg hc]
    exact hI c h0 h1
theorem has_up {v j c N : Int} (hj : j ≤ F v) (h : hasFar m d a F c N) : hasFar m d a (up F v j) c N := by
  intro k hk hw
  have := h k hk hw
  by_cases hc : c = v
  · rw [hc, show up F v j v = j from if_pos rfl]; rw [hc] at this; omega
  · rw [show up F v j c = F c from if_neg hc]; exact this
theorem has_s {c N : Int} (hN : 0 ≤ N) (h0 : hasFar m d a F c 0) (h : ∀ e, 0 ≤ e → e < m → nxt m d c e = true → ∀ k : Nat, (k : Int) ≤ N → wkN m d k e a = true → F c ≤ k + 1) : hasFar m d a F c (N + 1) := by
  intro k hk hw
  cases k with
  | zero => exact h0 0 (by omega) hw
  | succ k =>
    obtain ⟨e, g0, g1, g2, g3⟩ := wk_s.mp hw
    have := h e g0 g1 g2 k (by omega) g3
    omega
theorem farF_s (hm : m ≤ 10) {x c : Int} (hx : 1 ≤ dst m d x a ∧ dst m d x a < m) : farF m d a c = farF m d a x - 1 ↔ dst m d c a = dst m d x a - 1 := by
  unfold farF
  rw [if_neg (show ¬ dst m d x a = -1 by omega)]
  split <;> omega
end FAR
/-- pair's answers and memories -/
def rdE (m : Int) (d : Int → Int) (a b : Int) (M' : MM) : Prop := M' 36 7 = dst m d b a + 1 ∧ ∀ i, 0 ≤ i → i ≤ dst m d b a → M' 41 i = pth m d a b i
def paQ (M : MM) (o a b : Int) (n : Nat) (K : KK) : QQ := fun rr n' K' M' => n' = n ∧ K' = K ∧
  (((isTh M o a && isTh M o b && decide (a ≠ b)) = false ∧ rr = some (0, -1) ∧ M' = st2 M 36 12 1) ∨
  ((isTh M o a && isTh M o b && decide (a ≠ b)) = true ∧ M 37 o ≠ 0 ∧ rr = some (0, -1) ∧ M' = st2 M 36 12 3) ∨
  ((isTh M o a && isTh M o b && decide (a ≠ b)) = true ∧ M 37 o = 0 ∧ rel (dM M o) b a = true ∧ rr = some (0, -1) ∧ ∃ M1, sr M M1 ∧ rdE (M 38 o) (dM M o) a b M1 ∧ M' = st2 M1 36 12 3) ∨
  ((isTh M o a && isTh M o b && decide (a ≠ b)) = true ∧ M 37 o = 0 ∧ rel (dM M o) b a = false ∧ rr = some (0, B (!rel (dM M o) a b)) ∧ M' = st2 (tlM (st2 M 36 7 0) o a b) 36 12 0))
