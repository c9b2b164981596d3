/-! ===== what making calls leave ===== -/
theorem isO_cl {ci : Nat} (h : isO ci) : CL ci ∧ aOk 2 ci := by
  rcases h with rfl | rfl | rfl | rfl | rfl | rfl
  · exact ⟨cl_4, Or.inl ⟨rfl, Or.inl rfl⟩⟩
  · exact ⟨cl_9, Or.inl ⟨rfl, Or.inr (by decide)⟩⟩
  · exact ⟨cl_0, Or.inl ⟨rfl, Or.inr (by decide)⟩⟩
  · exact ⟨cl_10, Or.inl ⟨rfl, Or.inr (by decide)⟩⟩
  · exact ⟨cl_2, Or.inl ⟨rfl, Or.inr (by decide)⟩⟩
  · exact ⟨cl_5, Or.inl ⟨rfl, Or.inr (by decide)⟩⟩
theorem wf_new {K : KK} {M : MM} {n : Int} {k : Nat × Nat} {l : List Nat} (h : WF K M) (hn : 55 ≤ n) : WF (upK K n k) (zM M n l) := WF.low (WF.ups h hn k) (fun x hx => zM_ne _ (by omega))
theorem upK3 {K : KK} {n : Nat} {k1 k2 k3 : Nat × Nat} {K3 : KK} (h : K3 = upK (upK (upK K (n : Int) k1) ((n + 1 : Nat) : Int) k2) ((n + 1 + 1 : Nat) : Int) k3) : ∀ x : Int, x < n → K3 x = K x := fun x hx => by
  rw [h, upK_ne _ _ (by omega), upK_ne _ _ (by omega), upK_ne _ _ (by omega)]
def tkM (M : MM) (p : Int) : MM := st2 (st2 (st2 M 1 (M 0 1) p) 0 1 (M 0 1 + 1)) 0 11 0
def MADR (n : Nat) (K : KK) (M : MM) (ci : Nat) (q : Int) (R : Int → Int → Bool) (n' : Nat) (K' : KK) (M' : MM) : Prop := ∃ D, MADE n K M ci q D n' K' M' ∧ (∀ x y, 0 ≤ x → x < q → 0 ≤ y → y < q → rel D x y = R x y) ∧ ∀ y, q ≤ y → y < 10 → D y = 0
def makQ (n : Nat) (K : KK) (M : MM) (c : Prop) (w : Int) (ci : Nat) (q : Int) (R : Int → Int → Bool) : QQ := fun rr n' K' M' => (c → rr = some (0, M 36 0) ∧ MADR n K M ci q R n' K' M') ∧ (¬ c → rr = some (0, -1) ∧ REF n K M w n' K' M')
theorem made_fin {n n3 : Nat} {K K3 : KK} {M M0 M5 : MM} {ci : Nat} {q : Int} {D : Int → Int} (hL : LK K M) (hs : sx M M0) (hr : RC K M0) (hf : ∀ a : Int, (K a).1 ≠ 9 → 0 ≤ a ∧ a < n) (hn : 55 ≤ n) (hn3 : n3 = n + 3) (hK : ∀ x : Int, x < n → K3 x = K x) (hO : OB K3 M5 n ci (M 36 0) q D) (hl : ∀ x : Int, x < n → M5 x = M0 x) : M5 0 1 = M 36 0 ∧ MADE n K M ci q D n3 K3 (tkM M5 n) := by
  have e0 : M5 0 = M 0 := by rw [hl 0 (by omega), hs.1 0 (by omega)]
  have e1 : M5 1 = M 1 := by rw [hl 1 (by omega), hs.1 1 (by omega)]
  have ec : M5 0 1 = M 36 0 := by rw [e0]; exact hL.cnt
  refine ⟨ec, hn3, hK, ?_, fun x h1 h2 h3 h4 => ?_, ?_, ?_, ?_⟩
  · refine hO.of (WF.fld 0 11 rfl (WF.fld 0 1 rfl (WF.arr 1 rfl hO.wf))) ?_ ?_ ?_
    · show tkM M5 n (n : Int) = _; unfold tkM; rw [st2_ne _ (by omega), st2_ne _ (by omega), st2_ne _ (by omega)]
    · show tkM M5 n ((n : Int) + 1) = _; unfold tkM; rw [st2_ne _ (by omega), st2_ne _ (by omega), st2_ne _ (by omega)]
    · show tkM M5 n ((n : Int) + 2) = _; unfold tkM; rw [st2_ne _ (by omega), st2_ne _ (by omega), st2_ne _ (by omega)]
  · unfold tkM; rw [st2_ne _ h2, st2_ne _ h2, st2_ne _ h3, hl x h4, hs.1 x h1]
  · unfold tkM; rw [st2_up, st2_up, st2_ne _ (show (0 : Int) ≠ 1 by decide), ec, e0]
  · unfold tkM; rw [st2_ne _ (show (1 : Int) ≠ 0 by decide), st2_ne _ (show (1 : Int) ≠ 0 by decide), st2_up, ec, e1]
  · refine rc_new hr hf hK (fun x h1 h2 => ?_) ⟨?_, ?_, ?_⟩
    · unfold tkM; rw [st2_ne _ (by omega), st2_ne _ (by omega), st2_ne _ (by omega), hl x h2]
    · unfold tkM; rw [st2_ne _ (by omega), st2_ne _ (by omega), st2_ne _ (by omega), hl 9 (by omega)]
    · unfold tkM; rw [st2_ne _ (by omega), st2_ne _ (by omega), st2_ne _ (by omega), hl 10 (by omega)]
    · unfold tkM; rw [st2_ne _ (by omega), st2_ne _ (by omega), st2_ne _ (by omega), hl 11 (by omega)]
theorem ref_fin {n : Nat} {K : KK} {M M0 : MM} {w : Int} (hL : LK K M) (hs : sx M M0) (hr : RC K M0) : REF n K M w n K (st2 M0 0 11 w) := by
  refine ⟨rfl, rfl, fun x h1 h2 => by rw [st2_ne _ h2]; exact hs.1 x h1, by rw [st2_up, hs.1 0 (by omega)], hr.kp (fun x hx => st2_ne _ (by omega)) ⟨st2_ne _ (by decide), st2_ne _ (by decide), st2_ne _ (by decide)⟩, WF.fld 0 11 rfl (hL.wf.off_sx hs)⟩
theorem rel_0 (x y : Int) : rel (fun _ => 0) x y = false := bt_0 x
/-- the objects of the orders, behind a new one -/
theorem OB.old {K K' : KK} {M M' : MM} {p : Int} {ci : Nat} {nm m : Int} {d : Int → Int} {n : Nat} (h : OB K M p ci nm m d) (hp : p + 2 < n) (hw : WF K' M') (hK : ∀ x : Int, x < n → K' x = K x) (hM : ∀ x : Int, 55 ≤ x → x < n → M' x = M x) : OB K' M' p ci nm m d := by
  have hg := h.ge
  refine ⟨hw, ⟨by rw [hK _ (by omega)]; exact h.k, h.c, by rw [hK _ (by omega)]; exact h.kd, by rw [hK _ (by omega)]; exact h.ku⟩, hg, ?_, ?_, h.ok⟩
  · rw [hM _ hg (by omega)]; exact h.2.2.2.1
  · rw [hM _ (by omega) (by omega), hM _ (by omega) (by omega)]; exact h.2.2.2.2.1
theorem OB.lt {K : KK} {M : MM} {p : Int} {ci : Nat} {nm m : Int} {d : Int → Int} {n : Nat} (h : OB K M p ci nm m d) (hf : ∀ a : Int, (K a).1 ≠ 9 → 0 ≤ a ∧ a < n) : p + 2 < n := (hf (p + 2) (by rw [h.ku]; decide)).2
