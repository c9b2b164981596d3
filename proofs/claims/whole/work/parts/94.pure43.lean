/-! ===== bodies that ran ===== -/
def adL (M : MM) (T : List Int) : MM := T.foldl (fun M v => addM M 6 v 60) M
theorem WF.ad1 {K : KK} {M : MM} (h : WF K M) (v : Int) : WF K (addM M 6 v 60) := by
  unfold addM; split
  · exact WF.fld 6 1 rfl (WF.arr 7 rfl h)
  · exact h
theorem ad1_x {M : MM} {v x : Int} (h : x ≠ 6 ∧ x ≠ 7) : addM M 6 v 60 x = M x := by
  unfold addM; split
  · rw [st2_ne _ h.1, st2_ne _ (show x ≠ 6 + 1 by omega)]
  · rfl
theorem WF.ad {K : KK} : ∀ (T : List Int) {M : MM}, WF K M → WF K (adL M T) := by
  intro T
  induction T with
  | nil => intro M h; exact h
  | cons v T ih => intro M h; exact ih (h.ad1 v)
theorem adL_x {x : Int} (hx : x ≠ 6 ∧ x ≠ 7) : ∀ (T : List Int) (M : MM), adL M T x = M x := by
  intro T
  induction T with
  | nil => intro M; rfl
  | cons v T ih => intro M; exact (ih _).trans (ad1_x hx)
theorem OB.ad {K : KK} {M : MM} {p nm m : Int} {ci : Nat} {d : Int → Int} (h : OB K M p ci nm m d) (T : List Int) : OB K (adL M T) p ci nm m d := by
  have := h.ge
  exact h.of (WF.ad T h.wf) (adL_x (by omega) T M) (adL_x (by omega) T M) (adL_x (by omega) T M)
theorem LN.ad1 {K : KK} {M : MM} (h : LN K M 6 60) (v : Int) : LN K (addM M 6 v 60) 6 60 := by
  unfold addM; split
  · rename_i hz
    refine ⟨⟨h.1.1, h.1.2.1, ?_⟩, ?_, h.2.2⟩
    · have := h.1.2.2; simpa [st2] using this
    · have := h.2.1; have e : st2 (st2 M (6 + 1) (M 6 1) v) 6 1 (M 6 1 + 1) 6 1 = M 6 1 + 1 := by simp [st2]
      rw [e]; omega
  · exact h
theorem LN.ad {K : KK} : ∀ (T : List Int) {M : MM}, LN K M 6 60 → LN K (adL M T) 6 60 := by
  intro T
  induction T with
  | nil => intro M h; exact h
  | cons v T ih => intro M h; exact ih (h.ad1 v)
theorem adL_app (M : MM) (S T : List Int) : adL (adL M S) T = adL M (S ++ T) := (List.foldl_append).symm
