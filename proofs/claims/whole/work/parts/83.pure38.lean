/-! ===== sheets in the class ===== -/
def SF (K : KK) (M : MM) (s : Int) : Prop := K s = (0, 8) ∧ K (s + 1) = (1, 20) ∧ M s 0 = s + 1
theorem sf_at {K : KK} {M : MM} (h : WF K M) {k : Int} (hk : 0 ≤ k ∧ k < 4) : SF K M (28 + 2 * k) ∧ M 8 k = 28 + 2 * k := by
  have : k = 0 ∨ k = 1 ∨ k = 2 ∨ k = 3 := by omega
  rcases this with rfl | rfl | rfl | rfl
  · exact ⟨⟨wk_28 h, wk_29 h, wm_28_0 h⟩, wm_8_0 h⟩
  · exact ⟨⟨wk_30 h, wk_31 h, wm_30_0 h⟩, wm_8_1 h⟩
  · exact ⟨⟨wk_32 h, wk_33 h, wm_32_0 h⟩, wm_8_2 h⟩
  · exact ⟨⟨wk_34 h, wk_35 h, wm_34_0 h⟩, wm_8_3 h⟩
theorem WF.shf {K : KK} {M : MM} (h : WF K M) {k f v : Int} (hk : 0 ≤ k ∧ k < 4) (hf : f ≠ 0) : WF K (st2 M (28 + 2 * k) f v) := h.st (fun q hq h1 h2 => by
  have : ∀ q ∈ mfL, 28 ≤ q.1 → q.1 ≤ 35 → q.2.1 = 0 := by decide
  exact hf (by rw [← h2]; exact this q hq (by omega) (by omega)))
theorem WF.sha {K : KK} {M : MM} (h : WF K M) {k i v : Int} (hk : 0 ≤ k ∧ k < 4) : WF K (st2 M (28 + 2 * k + 1) i v) := h.st (fun q hq h1 _ => by
  have : ∀ q ∈ mfL, q.1 ≠ 29 ∧ q.1 ≠ 31 ∧ q.1 ≠ 33 ∧ q.1 ≠ 35 := by decide
  have := this q hq
  omega)
theorem wf_shs {K : KK} {M : MM} (h : WF K M) {k : Int} {f : Int → Int} (hk : 0 ≤ k ∧ k < 4) : WF K (setA M (28 + 2 * k + 1) f) := by
  refine h.of (fun q hq => ?_)
  have h1 : ∀ q ∈ mfL, q.1 ≠ 29 ∧ q.1 ≠ 31 ∧ q.1 ≠ 33 ∧ q.1 ≠ 35 := by decide
  have := h1 q hq
  rw [setA_ne _ (by omega)]
def reM (M : MM) (s so q : Int) : MM := st2 (st2 (setA M (s + 1) (fun j => if 0 ≤ j ∧ j < 20 then 0 else M (s + 1) j)) s 1 so) s 2 q
/-- pairs told out of a row N -/
def tl1 (m : Int) (d : Int → Int) (a b : Int) : Int → Int := if rel d a b then d else tlD m d a b
def goD (m : Int) (d : Int → Int) (a b : Int) : Bool := (decide (0 ≤ a) && decide (a < m)) && (decide (0 ≤ b) && decide (b < m)) && decide (a ≠ b) && !rel d b a
def prP (m : Int) (N : Int → Int) : Nat → Int → (Int → Int) → Int × (Int → Int)
  | 0, k, d => (k, d)
  | f + 1, k, d => if goD m d (N (2 * k)) (N (2 * k + 1)) then prP m N f (k + 1) (tl1 m d (N (2 * k)) (N (2 * k + 1))) else (k, d)
theorem prP_go {m : Int} {N : Int → Int} {f : Nat} {k : Int} {d : Int → Int} (h : goD m d (N (2 * k)) (N (2 * k + 1)) = true) : prP m N (f + 1) k d = prP m N f (k + 1) (tl1 m d (N (2 * k)) (N (2 * k + 1))) := if_pos h
theorem prP_no {m : Int} {N : Int → Int} {f : Nat} {k : Int} {d : Int → Int} (h : goD m d (N (2 * k)) (N (2 * k + 1)) = false) : prP m N (f + 1) k d = (k, d) := if_neg (by rw [h]; decide)
