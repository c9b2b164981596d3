/-! ===== the two objects hold the same ===== -/
def kci (kd : Int) : Nat := if kd = 0 then 4 else if kd = 1 then 9 else if kd = 2 then 0 else if kd = 3 then 10 else if kd = 4 then 2 else 5
def LO (K : KK) (M : MM) : Prop := ∀ o, 0 ≤ o → o < M 36 0 → OB K M (M 1 o) (kci (M 37 o)) o (M 38 o) (dM M o) ∧ PO (M 38 o) (dM M o) ∧ (0 ≤ M 37 o ∧ M 37 o ≤ 5)
def LD (M : MM) : Prop := ∀ o o', 0 ≤ o → o < o' → o' < M 36 0 → M 1 o + 3 ≤ M 1 o'
def LkP (M : MM) : Prop := (M 2 1 = M 36 7 ∧ 0 ≤ M 36 7 ∧ M 36 7 ≤ 10) ∧ ∀ i, 0 ≤ i → i < M 36 7 → M 3 i = M 41 i
def LH (M : MM) : Prop := HV M ∧ M 4 1 = M 36 5 ∧ (∀ i, 0 ≤ i → i < M 36 5 → M 5 i = M 40 i) ∧ M 0 4 = if M 36 5 = 0 then -1 else M 36 4
def LT (M : MM) : Prop := (M 6 1 = M 36 14 ∧ 0 ≤ M 36 14 ∧ M 36 14 ≤ 60) ∧ ∀ i, 0 ≤ i → i < M 36 14 → M 7 i = M 45 i
def LkS (M : MM) : Prop := ∀ s, 0 ≤ s → s < 4 → (M (28 + 2 * s) 1 = M 42 s ∧ M (28 + 2 * s) 2 = M 43 s) ∧ (-1 ≤ M 42 s ∧ M 42 s ≤ 2) ∧ (0 ≤ M 43 s ∧ M 43 s ≤ 20) ∧ ∀ i, 0 ≤ i → i < 20 → M (29 + 2 * s) i = M 44 (20 * s + i) ∧ 0 ≤ M 44 (20 * s + i) ∧ M 44 (20 * s + i) ≤ 100
def LK (K : KK) (M : MM) : Prop := MO K M ∧ M 0 1 = M 36 0 ∧ LO K M ∧ LD M ∧ LkP M ∧ LH M ∧ LT M ∧ LkS M ∧ M 0 11 = M 36 12 ∧ RC K M ∧ TW M
section LKA
variable {K : KK} {M : MM}
theorem LK.mo (h : LK K M) : MO K M := h.1
theorem LK.wf (h : LK K M) : WF K M := h.1.1
theorem LK.cnt (h : LK K M) : M 0 1 = M 36 0 := h.2.1
theorem LK.lo (h : LK K M) : LO K M := h.2.2.1
theorem LK.ld (h : LK K M) : LD M := h.2.2.2.1
theorem LK.lp (h : LK K M) : LkP M := h.2.2.2.2.1
theorem LK.lh (h : LK K M) : LH M := h.2.2.2.2.2.1
theorem LK.lt (h : LK K M) : LT M := h.2.2.2.2.2.2.1
theorem LK.ls (h : LK K M) : LkS M := h.2.2.2.2.2.2.2.1
theorem LK.st (h : LK K M) : M 0 11 = M 36 12 := h.2.2.2.2.2.2.2.2.1
theorem LK.rc (h : LK K M) : RC K M := h.2.2.2.2.2.2.2.2.2.1
theorem LK.tw (h : LK K M) : TW M := h.2.2.2.2.2.2.2.2.2.2
theorem LK.c8 (h : LK K M) : 0 ≤ M 36 0 ∧ M 36 0 ≤ 8 := h.1.2.1
theorem LK.ob (h : LK K M) {o : Int} (ho : 0 ≤ o ∧ o < M 36 0) : OB K M (M 1 o) (kci (M 37 o)) o (M 38 o) (dM M o) := (h.lo o ho.1 ho.2).1
theorem LK.po (h : LK K M) {o : Int} (ho : 0 ≤ o ∧ o < M 36 0) : PO (M 38 o) (dM M o) := (h.lo o ho.1 ho.2).2.1
theorem LK.kd (h : LK K M) {o : Int} (ho : 0 ≤ o ∧ o < M 36 0) : 0 ≤ M 37 o ∧ M 37 o ≤ 5 := (h.lo o ho.1 ho.2).2.2
end LKA
theorem isOr_y {M : MM} {o : Int} (h : 0 ≤ o ∧ o < M 36 0) : isOr M o = true := by unfold isOr; simp; exact h
theorem isOr_n {M : MM} {o : Int} (h : ¬ (0 ≤ o ∧ o < M 36 0)) : isOr M o = false := by
  cases hq : isOr M o with
  | false => rfl
  | true => unfold isOr at hq; simp at hq; exact absurd hq h
theorem isTh_y {M : MM} {o a : Int} (h : 0 ≤ o ∧ o < M 36 0) : isTh M o a = (decide (0 ≤ a) && decide (a < M 38 o)) := by unfold isTh; rw [isOr_y h]; rfl
theorem isTh_n {M : MM} {o a : Int} (h : ¬ (0 ≤ o ∧ o < M 36 0)) : isTh M o a = false := by unfold isTh; rw [isOr_n h]; rfl
theorem sx.lk {K : KK} {M M1 : MM} (h : LK K M) (hs : sx M M1) (hr : RC K M1) : LK K M1 := by
  have e : ∀ x, ¬ (9 ≤ x ∧ x ≤ 27) → M1 x = M x := hs.1
  have hw := h.wf.off_sx hs
  have e36 := e 36 (by omega)
  have e37 := e 37 (by omega)
  have e38 := e 38 (by omega)
  have e39 := e 39 (by omega)
  have e0 := e 0 (by omega)
  have e1 := e 1 (by omega)
  have ed : ∀ o, dM M1 o = dM M o := fun o => by unfold dM; rw [e39]
  refine ⟨⟨hw, by rw [e36]; exact h.1.2.1, by rw [e38]; exact h.1.2.2.1, by rw [e39]; exact h.1.2.2.2.1, by rw [e38, e39]; exact h.1.2.2.2.2⟩, by rw [e0, e36]; exact h.cnt, fun o h0 h1 => ?_, ?_, ?_, ?_, ?_, ?_, by rw [e0, e36]; exact h.st, hr, ?_⟩
  · rw [e36] at h1
    rw [e1, e37, e38, ed]
    exact ⟨(h.ob ⟨h0, h1⟩).off_sx hs, h.po ⟨h0, h1⟩, h.kd ⟨h0, h1⟩⟩
  · unfold LD; rw [e36, e1]; exact h.ld
  · unfold LkP; rw [e36, e 2 (by omega), e 3 (by omega), e 41 (by omega)]; exact h.lp
  · unfold LH HV; rw [e36, e 4 (by omega), e 5 (by omega), e 40 (by omega), e0, e38]; exact h.lh
  · unfold LT; rw [e36, e 6 (by omega), e 7 (by omega), e 45 (by omega)]; exact h.lt
  · intro s h0 h1
    rw [e (28 + 2 * s) (by omega), e (29 + 2 * s) (by omega), e 42 (by omega), e 43 (by omega), e 44 (by omega)]
    exact h.ls s h0 h1
  · unfold TW TWk; rw [e36, e38, e 52 (by omega), e 53 (by omega), ed]; exact h.tw
/-- what told answers, in the class's words -/
def toldC (kd m : Int) (d : Int → Int) (w : Int) : Int := if w = 0 then kd else if w = 1 then m else if w = 2 then prs m d else if w = 3 then nxs m d else if w = 4 then lowNC m d else if w = 5 then cnt (wide m d) else if w = 6 then hgtC m d else if w = 7 then tl m d 0 else if w = 8 then ljC m d else if w = 9 then B (latt m d) else if w = 10 then B (latt m d && decide (une m d = -1)) else if w = 11 then B (decide (bentC m d = -1)) else if w = 12 then B (grR m d).isSome else -1
