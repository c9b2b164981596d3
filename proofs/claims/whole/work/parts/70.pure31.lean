/-! ===== making orders ===== -/
theorem fitG {cm : MI} {cs : Nat × Nat} {d d' mc ms mc' ms' : Nat} (h : d < d') (hm : cm.2.2.2.1 ≤ 45) (h1 : cs.1 + mc' ≤ mc) (h2 : cs.2 + ms' ≤ ms) : Fit (rmd d' mc ms) cs cm d mc' ms' := ⟨h, by show 64 * d + 64 ≤ 64 * d'; omega, hm, h1, h2⟩
theorem upK_self (K : KK) (a : Int) (k : Nat × Nat) : upK K a k a = k := if_pos rfl
theorem upK_ne (K : KK) {a x : Int} (k : Nat × Nat) (h : x ≠ a) : upK K a k x = K x := if_neg h
section MKF
variable {G : GG} {mi : MI} {R : Room} {Z : ZZ} {cs : Nat × Nat} {pc : Nat} {lc : LL} {r : List VV} {n : Nat} {K : KK} {M : MM}
theorem MW.factK (h : (∀ a : Int, (K a).1 ≠ 9 → 0 ≤ a ∧ a < n) → MW G mi R Z cs pc lc r n K M) : MW G mi R Z cs pc lc r n K M := fun p e s m args below meth c H locs ls cx hr hs hl hlo hso => h hr.2.2.1 p e s m args below meth c H locs ls cx hr hs hl hlo hso
end MKF
theorem kfL_lt : ∀ q ∈ kfL, q.1 < 55 := by decide
theorem WF.ups {K : KK} {M : MM} (h : WF K M) {a : Int} (ha : 55 ≤ a) (k : Nat × Nat) : WF (upK K a k) M := ⟨fun q hq => by have := kfL_lt q hq; rw [upK_ne _ _ (by omega)]; exact h.1 q hq, h.2⟩
theorem WF.low {K : KK} {M M1 : MM} (h : WF K M) (he : ∀ x, x < 55 → M1 x = M x) : WF K M1 := h.of (fun q hq => by rw [he q.1 (mfL_lt q hq)])
def iniQ (n : Nat) (K : KK) (M : MM) (p : Int) (ci : Nat) (nm q : Int) : QQ := fun rr n' K' M' => rr = none ∧ n' = n + 2 ∧ K' = upK (upK K (n : Int) (1, 10)) ((n + 1 : Nat) : Int) (1, 10) ∧ OB K' M' p ci nm q (fun _ => 0) ∧ ∀ x, x < p → M' x = M x
theorem cnt_0 : cnt 0 = 0 := by decide
theorem prs_0 {q : Int} : prs q (fun _ => 0) = 0 := sumZ_0f (fun _ _ _ => cnt_0)
theorem upS_0 {q a : Int} : upS q (fun _ => 0) a = 0 := by
  show mk q (fun _ => bt 0 a) = 0
  rw [mk_congr (P := fun _ => bt 0 a) (Q := fun _ => false) (fun _ _ _ => bt_0 a)]
  exact mk_none q
theorem ini_ok {n : Nat} {K : KK} {M : MM} {p : Int} {ci : Nat} {nm q : Int} (hw : WF K M) (hk : K p = (0, ci)) (hc : isO ci) (hpn : (n : Int) = p + 1) (hg : 55 ≤ p) (hq : 0 ≤ q ∧ q ≤ 10) {M' : MM} (hM : M' = st2 (st2 (st2 (st2 (zM (st2 (zM M (n : Int) []) p 2 (n : Int)) ((n + 1 : Nat) : Int) []) p 3 ((n + 1 : Nat) : Int)) p 4 0) p 0 nm) p 1 q) : OB (upK (upK K (n : Int) (1, 10)) ((n + 1 : Nat) : Int) (1, 10)) M' p ci nm q (fun _ => 0) ∧ ∀ x, x < p → M' x = M x := by
  have e1 : ((n + 1 : Nat) : Int) = p + 2 := by omega
  rw [e1, hpn] at hM ⊢
  have hp2 := p2_b hq
  have hlow : ∀ x, x < p → M' x = M x := fun x hx => by
    rw [hM, st2_ne _ (by omega), st2_ne _ (by omega), st2_ne _ (by omega), st2_ne _ (by omega), zM_ne _ (by omega), st2_ne _ (by omega), zM_ne _ (by omega)]
  have hp : ∀ k : Int, M' p k = if k = 1 then q else if k = 0 then nm else if k = 4 then 0 else if k = 3 then p + 2 else if k = 2 then p + 1 else M p k := fun k => by
    rw [hM]
    simp only [st2, zM, if_pos, show ¬ p = p + 2 by omega, show ¬ p = p + 1 by omega, if_false]
  have ha : ∀ k : Int, M' (p + 1) k = 0 := fun k => by
    rw [hM, st2_ne _ (by omega), st2_ne _ (by omega), st2_ne _ (by omega), st2_ne _ (by omega), zM_ne _ (by omega), st2_ne _ (by omega)]
    simp [zM]
  have hb : ∀ k : Int, M' (p + 2) k = 0 := fun k => by
    rw [hM, st2_ne _ (by omega), st2_ne _ (by omega), st2_ne _ (by omega), st2_ne _ (by omega)]
    simp [zM]
  refine ⟨⟨WF.low (WF.ups (WF.ups hw (by omega) _) (by omega) _) (fun x hx => hlow x (by omega)), ⟨by rw [upK_ne _ _ (by omega), upK_ne _ _ (by omega)]; exact hk, hc, by rw [upK_ne _ _ (by omega), upK_self], by rw [upK_self]⟩, hg, ⟨by rw [hp]; simp, by rw [hp]; simp, by rw [hp]; simp, by rw [hp]; simp, by rw [hp, prs_0]; simp⟩, fun b _ _ => ⟨ha b, by rw [hb, upS_0]⟩, hq, fun _ _ _ => (show (0 : Int) ≤ 0 ∧ (0 : Int) < 1024 from ⟨by omega, by omega⟩), fun _ _ _ => (show (0 : Int) < p2 q by omega)⟩, hlow⟩
/-- what a making call leaves: the new order, or why not -/
def MADE (n : Nat) (K : KK) (M : MM) (ci : Nat) (q : Int) (f : Int → Int) (n' : Nat) (K' : KK) (M' : MM) : Prop :=
  n' = n + 3 ∧ (∀ x : Int, x < n → K' x = K x) ∧ OB K' M' n ci (M 36 0) q f ∧ (∀ x : Int, ¬ (9 ≤ x ∧ x ≤ 27) → x ≠ 0 → x ≠ 1 → x < n → M' x = M x) ∧ M' 0 = up (up (M 0) 1 (M 36 0 + 1)) 11 0 ∧ M' 1 = up (M 1) (M 36 0) n ∧ RC K' M'
def REF (n : Nat) (K : KK) (M : MM) (w : Int) (n' : Nat) (K' : KK) (M' : MM) : Prop := n' = n ∧ K' = K ∧ (∀ x : Int, ¬ (9 ≤ x ∧ x ≤ 27) → x ≠ 0 → M' x = M x) ∧ M' 0 = up (M 0) 11 w ∧ RC K M' ∧ WF K M'
theorem rc_new {n : Nat} {K K' : KK} {M M' : MM} (h : RC K M) (hf : ∀ a : Int, (K a).1 ≠ 9 → 0 ≤ a ∧ a < n) (hK : ∀ x : Int, x < n → K' x = K x) (hM : ∀ x : Int, 55 ≤ x → x < n → M' x = M x) (hk : kp M M') : RC K' M' := by
  unfold RC CW
  rw [hk.1, hk.2.1, hk.2.2]
  rcases h with h | ⟨h1, hk1, h2, h3⟩
  · exact Or.inl h
  · right
    have a1 := hf (M 9 4) (by rw [hk1.1]; decide)
    have a2 := hf (M 9 4 + 1) (by rw [hk1.2]; decide)
    rw [hK _ a1.2, hK _ a2.2, hM _ h1 a1.2, hM _ (by omega) a2.2]
    exact ⟨h1, hk1, h2, h3⟩
