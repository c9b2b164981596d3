/-! ===== paths and pairs in the class ===== -/
def sp (M M1 : MM) : Prop := (∀ x, x ≠ 2 → x ≠ 3 → M1 x = M x) ∧ ∀ k, k ≠ 1 → M1 2 k = M 2 k
theorem sp.rf {M : MM} : sp M M := ⟨fun _ _ _ => rfl, fun _ _ => rfl⟩
theorem sp.tr {M M1 M2 : MM} (h1 : sp M M1) (h2 : sp M1 M2) : sp M M2 := ⟨fun x hx hy => (h2.1 x hx hy).trans (h1.1 x hx hy), fun k hk => (h2.2 k hk).trans (h1.2 k hk)⟩
theorem sp.add {M M1 : MM} (h : sp M M1) {k v w : Int} : sp M (st2 (st2 M1 3 k v) 2 1 w) := ⟨fun x hx hy => by rw [st2_ne _ hx, st2_ne _ hy]; exact h.1 x hx hy, fun j hj => by rw [st2_o _ hj, st2_ne _ (show (2 : Int) ≠ 3 by decide)]; exact h.2 j hj⟩
theorem sp.emp {M M1 : MM} (h : sp M M1) {w : Int} : sp M (st2 M1 2 1 w) := ⟨fun x hx hy => by rw [st2_ne _ hx]; exact h.1 x hx hy, fun j hj => by rw [st2_o _ hj]; exact h.2 j hj⟩
theorem sp.wf {K : KK} {M M1 : MM} (hs : sp M M1) (h : WF K M) : WF K M1 := h.of (fun q hq => by
  have h1 : ∀ q ∈ mfL, q.1 ≠ 3 ∧ (q.1 = 2 → q.2.1 ≠ 1) := by decide
  by_cases h2 : q.1 = 2
  · rw [h2, hs.2 _ ((h1 q hq).2 h2)]
  · rw [hs.1 q.1 h2 (h1 q hq).1])
theorem OB.off_sp {K : KK} {M M1 : MM} {p : Int} {ci : Nat} {nm m : Int} {d : Int → Int} (h : OB K M p ci nm m d) (hs : sp M M1) : OB K M1 p ci nm m d := by
  have := h.ge
  exact h.of (hs.wf h.wf) (hs.1 _ (by omega) (by omega)) (hs.1 _ (by omega) (by omega)) (hs.1 _ (by omega) (by omega))
theorem fst_stp {m : Int} {d : Int → Int} {x y l : Int} (hl : l = dst m d x y - 1) : fstC m d x y l = stpF m d y x := by rw [hl]; rfl
def paC (n : Nat) (K : KK) (M : MM) (o a b : Int) : QQ := fun rr n' K' M' => n' = n ∧ K' = K ∧
  (((isTh M o a && isTh M o b && decide (a ≠ b)) = false ∧ rr = some (0, -1) ∧ M' = st2 M 0 11 1) ∨
  ((isTh M o a && isTh M o b && decide (a ≠ b)) = true ∧ M 37 o ≠ 0 ∧ rr = some (0, -1) ∧ M' = st2 M 0 11 3) ∨
  ((isTh M o a && isTh M o b && decide (a ≠ b)) = true ∧ M 37 o = 0 ∧ rel (dM M o) b a = true ∧ rr = some (0, -1) ∧ ∃ M1, sp M M1 ∧ (M1 2 1 = dst (M 38 o) (dM M o) b a + 1 ∧ ∀ i, 0 ≤ i → i ≤ dst (M 38 o) (dM M o) b a → M1 3 i = pth (M 38 o) (dM M o) a b i) ∧ M' = st2 M1 0 11 3) ∨
  ((isTh M o a && isTh M o b && decide (a ≠ b)) = true ∧ M 37 o = 0 ∧ rel (dM M o) b a = false ∧ rr = some (0, B (!rel (dM M o) a b)) ∧ ∃ M1, so (M 1 o) (st2 M 2 1 0) M1 ∧ OB K M1 (M 1 o) 4 o (M 38 o) (if rel (dM M o) a b then dM M o else tlD (M 38 o) (dM M o) a b) ∧ M' = st2 M1 0 11 0))
def ehM (M : MM) : MM := st2 (st2 M 4 1 0) 0 4 (-1)
def drC (M : MM) : MM := st2 (st2 (st2 M 0 1 (M 0 1 - 1)) 1 (M 0 1 - 1) (-1)) 2 1 0
theorem had_0 {M : MM} {o t : Int} (h : M 36 5 ≤ 0) : hadH M o t = false := by
  unfold hadH inH
  rw [decide_eq_false (by omega), show allB (M 36 5) (fun k => !decide (M 40 k = t)) = true from allB_iff.mpr (fun c h0 h1 => by omega)]
  rfl
theorem had_in {M : MM} {o t : Int} (h : inH M t = true) : hadH M o t = true := by unfold hadH; rw [h, Bool.or_true]
theorem had_no {M : MM} {o t : Int} (ho : M 36 4 = o) (h : inH M t = false) : hadH M o t = false := by
  unfold hadH
  rw [h, decide_eq_false (show ¬ M 36 4 ≠ o by omega)]; simp
theorem plc_none {h : Int} {x : XX} {t : Int} (hh : 0 ≤ h) (hq : plc h x t = -1) : ∀ k, 0 ≤ k → k < h → x k ≠ t := by
  intro k k0 k1 he
  have := rs_ne (n := h) (f := fun k => if x k = t then k else -1) _ 0 k rfl k0 k1 (by rw [if_pos he]; omega)
  exact this hq
theorem plc_no {M : MM} {t : Int} (hh : LH M) (hq : (decide (plc (M 4 1) (M 5) t ≠ -1)) = false) : inH M t = false := by
  have h1 : plc (M 4 1) (M 5) t = -1 := by simpa using hq
  rw [hh.2.1] at h1
  have h2 := plc_none hh.1.1.1 h1
  unfold inH
  rw [show allB (M 36 5) (fun k => !decide (M 40 k = t)) = true from allB_iff.mpr (fun c c0 c1 => by
    have := h2 c c0 c1
    rw [hh.2.2.1 c c0 c1] at this
    simpa using this)]
  rfl
theorem plc_yes {M : MM} {t : Int} (hh : LH M) (hq : (decide (plc (M 4 1) (M 5) t ≠ -1)) = true) : inH M t = true := by
  have h1 : plc (M 4 1) (M 5) t ≠ -1 := by simpa using hq
  rw [hh.2.1] at h1
  have h2 := plc_in h1
  have h3 : M 5 (plc (M 36 5) (M 5) t) = t := by
    have := rs_in (n := M 36 5) (P := fun k => decide (M 5 k = t)) (v := 0) (by omega)
    have e : plc (M 36 5) (M 5) t = rs (M 36 5) (fun c => if (decide (M 5 c = t)) then c else -1) 0 := by
      unfold plc
      exact rs_congr _ 0 rfl (by omega) (fun c _ _ => by simp)
    rw [← e] at this
    rcases this with q | q
    · exact absurd q h1
    · simpa using q.1
  cases hi : inH M t with
  | true => rfl
  | false =>
    unfold inH at hi
    simp only [Bool.not_eq_false'] at hi
    have := allB_iff.mp hi _ h2.1 h2.2
    rw [← hh.2.2.1 _ h2.1 h2.2, h3] at this
    simp at this
