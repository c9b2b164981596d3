/-! ===== the link at the start ===== -/
theorem LK_init {K1 : KK} {M1 : MM} (h1 : ini11 none 36 K1 M1) {K2 : KK} {M2 : MM} (h2 : ini12 (upK K1 36 (0, 12)) (zM M1 36 (fT 12)) none 55 K2 M2) : LK K2 M2 ∧ ∀ x : Int, 55 ≤ x ∨ x < 0 → K2 x = (9, 0) := by
  obtain ⟨-, -, k1, k1x, m1, ⟨a1, a2, a3, a4, a5, a6, a7⟩, sh⟩ := h1
  obtain ⟨-, -, k2, k2x, m2x, m2, ⟨b1, b2⟩, z, so⟩ := h2
  have hM : ∀ x : Int, x < 36 → M2 x = M1 x := fun x hx => by rw [m2x x hx, zM_ne _ (by omega)]
  have hF : ∀ k ∈ [(0 : Int), 5, 7, 12, 14, 21, 22, 23], M2 36 k = 0 := by
    intro k hk
    rw [b2 k hk]
    simp only [List.mem_cons, List.not_mem_nil, or_false] at hk
    rcases hk with rfl | rfl | rfl | rfl | rfl | rfl | rfl | rfl <;> rfl
  have f0 := hF 0 (by simp)
  have f5 := hF 5 (by simp)
  have f7 := hF 7 (by simp)
  have f12 := hF 12 (by simp)
  have f14 := hF 14 (by simp)
  have f21 := hF 21 (by simp)
  have z38 := z 38 (by simp)
  have z39 := z 39 (by simp)
  have z43 := z 43 (by simp)
  have z44 := z 44 (by simp)
  have hw : WF K2 M2 := by
    refine ⟨fun q hq => ?_, fun q hq => ?_⟩
    · rw [← List.take_append_drop 36 kfL] at hq
      rcases List.mem_append.mp hq with h | h
      · have hlt : q.1 < 36 := (show ∀ q ∈ kfL.take 36, q.1 < 36 by decide) q h
        rw [k2x q.1 (by omega), upK_ne _ _ (by omega)]
        exact k1 q h
      · rw [show kfL.drop 36 = (36, 0, 12) :: kfL.drop 37 from rfl] at h
        rcases List.mem_cons.mp h with h | h
        · rw [h, k2x _ (by decide)]; exact upK_self _ _ _
        · exact k2 q h
    · rw [← List.take_append_drop 35 mfL] at hq
      rcases List.mem_append.mp hq with h | h
      · have hlt : q.1 < 36 := (show ∀ q ∈ mfL.take 35, q.1 < 36 by decide) q h
        rw [hM q.1 hlt]
        exact m1 q h
      · exact m2 q h
  refine ⟨⟨⟨hw, by omega, fun o _ _ => by rw [z38]; omega, fun i _ _ => by rw [z39]; omega, fun o b _ _ _ _ => by rw [z39, z38]; decide⟩, by rw [hM 0 (by decide), a1, f0], fun o o0 o1 => by omega, fun o o' _ _ _ => by omega, ⟨⟨by rw [hM 2 (by decide), a4, f7], by omega, by omega⟩, fun i _ _ => by omega⟩, ⟨?_, by rw [hM 4 (by decide), a5, f5], fun i _ _ => by omega, by rw [if_pos f5, hM 0 (by decide), a2]⟩, ⟨⟨by rw [hM 6 (by decide), a6, f14], by omega, by omega⟩, fun i _ _ => by omega⟩, ?_, by rw [hM 0 (by decide), a3, f12], Or.inl (by rw [hM 9 (by decide)]; exact a7), Or.inl f21⟩, ?_⟩
  · exact ⟨⟨by omega, by omega⟩, fun h => by omega, fun i _ _ => by omega, fun j i _ _ _ => by omega⟩
  · intro s s0 s4
    have hso := so s s0 s4
    have hq : M1 (28 + 2 * s) 1 = -1 ∧ M1 (28 + 2 * s) 2 = 0 ∧ ∀ i, M1 (29 + 2 * s) i = 0 := by
      have hh : s = 0 ∨ s = 1 ∨ s = 2 ∨ s = 3 := by omega
      rcases hh with rfl | rfl | rfl | rfl
      · exact sh (28, 29) (by simp)
      · exact sh (30, 31) (by simp)
      · exact sh (32, 33) (by simp)
      · exact sh (34, 35) (by simp)
    refine ⟨⟨by rw [hM _ (by omega), hq.1, hso], by rw [hM _ (by omega), hq.2.1, z43]⟩, by omega, by rw [z43]; omega, fun i _ _ => ⟨by rw [hM _ (by omega), hq.2.2, z44], by rw [z44]; omega, by rw [z44]; omega⟩⟩
  · intro x hx
    rw [k2x x (by omega), upK_ne _ _ (by omega)]
    exact k1x x (by omega)
