/-! ===== ways to sets ===== -/
def wy (m : Int) (d : Int → Int) (s : Int) : Int := wyS m d 0 0 (p2 m) s
section WY
variable {m : Int} {d : Int → Int}
theorem wy_stay (hm : 0 ≤ m ∧ m ≤ 10) {t : Int} (ht : 0 ≤ t ∧ t < p2 m) : ∀ j : Nat, t + j ≤ p2 m → wyS m d 0 0 (t + j) t = wyS m d 0 0 t t := by
  have hp := p2_b hm
  intro j
  induction j with
  | zero => intro _; rw [show t + ((0 : Nat) : Int) = t by omega]
  | succ j ih =>
    intro hj
    rw [show t + ((j + 1 : Nat) : Int) = (t + j) + 1 by omega, wy_step hm ⟨by omega, by omega⟩ ht, ih (by omega), sumZ_0f (fun e h0 h1 => ?_), Int.add_zero]
    rw [if_neg]
    rw [Bool.and_eq_true, decide_eq_true_eq]
    rintro ⟨h2, h3⟩
    have := plus_gt (s := t + j) (c := e) ⟨by omega, by omega⟩ ⟨h0, by omega⟩ (may_nb h3)
    omega
theorem wy_fix (hm : 0 ≤ m ∧ m ≤ 10) {t k : Int} (ht : 0 ≤ t ∧ t < p2 m) (hk : t ≤ k ∧ k ≤ p2 m) : wyS m d 0 0 k t = wy m d t := by
  have h1 := wy_stay (d := d) hm ht (k - t).toNat (by omega)
  have h2 := wy_stay (d := d) hm ht (p2 m - t).toNat (by omega)
  rw [show t + (((k - t).toNat : Nat) : Int) = k by omega] at h1
  rw [show t + (((p2 m - t).toNat : Nat) : Int) = p2 m by omega] at h2
  unfold wy
  rw [h1, h2]
theorem wy_b (hm : 0 ≤ m ∧ m ≤ 10) {t : Int} (ht : 0 ≤ t ∧ t < p2 m) : 0 ≤ wy m d t ∧ wy m d t ≤ 3628800 := by
  have hp := p2_b hm
  exact wy_b10 hm ⟨by omega, by omega⟩ ht
theorem less_in (hm : 0 ≤ m ∧ m ≤ 10) {t e : Int} (ht : 0 ≤ t ∧ t < p2 m) (he : 0 ≤ e ∧ e < m) : 0 ≤ less t e ∧ less t e < p2 m := by
  have hp := p2_b hm
  have htn : nn t := ⟨ht.1, by omega⟩
  have h := nn_less htn (c := e) ⟨he.1, by omega⟩
  refine ⟨h.1, ?_⟩
  rw [p2_eq hm] at ht ⊢
  refine lt_of_bt h (fun a h0 h1 hb => ?_)
  rw [bt_less htn ⟨he.1, by omega⟩ h0, Bool.and_eq_true] at hb
  exact bt_lt ht.1 ht.2 hb.1
theorem wy_rec0 (hm : 0 ≤ m ∧ m ≤ 10) {t : Int} (ht : 0 ≤ t ∧ t < p2 m) : ∀ k : Nat, (k : Int) ≤ p2 m → wyS m d 0 0 k t = B (decide (t = 0)) + sumZ m (fun e => if bt t e && can d (less t e) e && decide (less t e < k) then wy m d (less t e) else 0) := by
  have hp := p2_b hm
  have htn : nn t := ⟨ht.1, by omega⟩
  intro k
  induction k with
  | zero =>
    intro _
    rw [sumZ_0f (fun e h0 h1 => ?_), Int.add_zero]
    · show wy0 t = _
      unfold wy0
      by_cases h : t = 0
      · rw [if_pos h, decide_eq_true h]; rfl
      · rw [if_neg h, decide_eq_false h]; rfl
    · rw [if_neg]
      have := less_in hm ht ⟨h0, h1⟩
      rw [decide_eq_false (by omega), Bool.and_false]
      decide
  | succ k ih =>
    intro hk
    have hkn : nn (k : Int) := ⟨by omega, by omega⟩
    rw [show ((k + 1 : Nat) : Int) = (k : Int) + 1 by omega, wy_step hm ⟨by omega, by omega⟩ ht, ih (by omega), Int.add_assoc, ← sumZ_add]
    congr 1
    refine sumZ_congr (fun e h0 h1 => ?_)
    have he : 0 ≤ e ∧ e < 31 := ⟨h0, by omega⟩
    by_cases hl : less t e = k
    · have e1 : (decide (t = plus k e) && may d 0 0 k e) = (bt t e && can d (less t e) e) := by
        rw [hl, Bool.eq_iff_iff, Bool.and_eq_true, Bool.and_eq_true, decide_eq_true_eq]
        constructor
        · rintro ⟨h2, h3⟩
          refine ⟨?_, h3⟩
          rw [h2, bt_plus hkn he h0]; simp
        · rintro ⟨h2, h3⟩
          refine ⟨?_, h3⟩
          rw [← hl, plus_less htn he h2]
      rw [e1, wy_fix hm ⟨by omega, by omega⟩ ⟨by omega, by omega⟩, hl, decide_eq_false (by omega), Bool.and_false, decide_eq_true (show (k : Int) < (k : Int) + 1 by omega), Bool.and_true]
      simp
    · have e1 : (decide (t = plus k e) && may d 0 0 k e) = false := by
        rw [Bool.eq_false_iff, ne_eq, Bool.and_eq_true, decide_eq_true_eq]
        rintro ⟨h2, h3⟩
        apply hl
        rw [h2, less_plus hkn he (may_nb h3)]
      rw [e1, show decide (less t e < (k : Int) + 1) = decide (less t e < k) from by rw [decide_eq_decide]; omega]
      simp
/-- ways to a set by its last thing -/
theorem wy_rec (hm : 0 ≤ m ∧ m ≤ 10) {t : Int} (ht : 0 ≤ t ∧ t < p2 m) : wy m d t = B (decide (t = 0)) + sumZ m (fun e => if bt t e && can d (less t e) e then wy m d (less t e) else 0) := by
  have hp := p2_b hm
  have h := wy_rec0 (d := d) hm ht (p2 m).toNat (by omega)
  rw [show (((p2 m).toNat : Nat) : Int) = p2 m by omega] at h
  unfold wy at h ⊢
  rw [h]
  congr 1
  refine sumZ_congr (fun e h0 h1 => ?_)
  rw [decide_eq_true (less_in hm ht ⟨h0, h1⟩).2, Bool.and_true]
theorem wy_00 (hm : 0 ≤ m ∧ m ≤ 10) : wy m d 0 = 1 := by
  have hp := p2_b hm
  rw [wy_rec hm ⟨by omega, by omega⟩, sumZ_0f (fun e _ _ => by rw [bt_0]; rfl)]
  rfl
theorem wy_up (hm : 0 ≤ m ∧ m ≤ 10) {s c : Int} (hs : 0 ≤ s ∧ s < p2 m) (hc : 0 ≤ c ∧ c < m) (hw : wy m d s ≠ 0) (hcan : can d s c = true) : wy m d (plus s c) ≠ 0 := by
  have hp := p2_b hm
  have hpl := plus_in hm hs hc
  have hsn : nn s := ⟨hs.1, by omega⟩
  have hb := wy_b (d := d) hm hs
  have hl : less (plus s c) c = s := less_plus hsn ⟨hc.1, by omega⟩ (may_nb hcan)
  have h1 := sumZ_le1 (n := m) (f := fun _ => 0) (g := fun e => if bt (plus s c) e && can d (less (plus s c) e) e then wy m d (less (plus s c) e) else 0) (j := c) (x := wy m d s) hc (by
    show (if bt (plus s c) c && can d (less (plus s c) c) c then wy m d (less (plus s c) c) else 0) ≥ 0 + wy m d s
    rw [hl, hcan, bt_plus hsn ⟨hc.1, by omega⟩ hc.1, decide_eq_true rfl]
    simp) (fun e h0 h1 => by
    show 0 ≤ (if bt (plus s c) e && can d (less (plus s c) e) e then wy m d (less (plus s c) e) else 0)
    have := wy_b (d := d) hm (less_in hm hpl ⟨h0, h1⟩)
    split <;> omega)
  rw [sumZ_const hm.1] at h1
  rw [wy_rec hm hpl]
  have := B_01 (decide (plus s c = 0))
  omega
end WY
/-- ways from a set, as the class keeps them -/
def fw (m : Int) (d : Int → Int) (s : Int) : Int := if wy m d s = 0 ∧ s ≠ p2 m - 1 then 0 else tl m d s
def gth (m : Int) (d F : Int → Int) (s : Int) : Int := foldZ m (fun a c => if can d s c then wr (a + F (plus s c)) else a) 0
theorem gth_tl {m : Int} {d F : Int → Int} {s : Int} (hm : 0 ≤ m ∧ m ≤ 10) (hs : 0 ≤ s ∧ s < p2 m) (hne : s ≠ p2 m - 1) (h : ∀ c, 0 ≤ c → c < m → can d s c = true → F (plus s c) = tl m d (plus s c)) : gth m d F s = tl m d s := by
  unfold gth tl
  rw [lyF_eq hm hs, decide_eq_false hne]
  have key : ∀ k : Nat, (k : Int) ≤ m → foldZ (k : Int) (fun a c => if can d s c then wr (a + F (plus s c)) else a) 0 = foldZ (k : Int) (fun acc c => wr (acc + (if may d 0 0 s c then lyF m d 0 0 (plus s c) else 0))) 0 ∧ inR (foldZ (k : Int) (fun acc c => wr (acc + (if may d 0 0 s c then lyF m d 0 0 (plus s c) else 0))) 0) := by
    intro k
    induction k with
    | zero => intro _; exact ⟨rfl, by show inR 0; exact ⟨by omega, by omega⟩⟩
    | succ k ih =>
      intro hk
      obtain ⟨h1, h2⟩ := ih (by omega)
      rw [show ((k + 1 : Nat) : Int) = (k : Int) + 1 by omega, foldZ_s (by omega), foldZ_s (by omega)]
      refine ⟨?_, inR_to _⟩
      rw [h1]
      by_cases hc : can d s k = true
      · rw [if_pos hc, if_pos (show may d 0 0 s k = true from hc), h k (by omega) (by omega) hc]
        rfl
      · rw [if_neg hc, if_neg (show ¬ may d 0 0 s k = true from hc), Int.add_zero, wr_in h2]
  have := (key m.toNat (by omega)).1
  rw [show ((m.toNat : Nat) : Int) = m by omega] at this
  exact this
theorem tl_all {m : Int} {d : Int → Int} (hm : 0 ≤ m ∧ m ≤ 10) : tl m d (p2 m - 1) = 1 := by
  have hp := p2_b hm
  unfold tl
  rw [ly_sum hm ⟨by omega, by omega⟩, decide_eq_true rfl, sumZ_0f (fun c h0 h1 => ?_)]
  · rfl
  · rw [if_neg]
    intro h
    have h2 := may_nb h
    have h3 := cnt_full hm (s := p2 m - 1) ⟨by omega, by omega⟩ (cnt_all hm) ⟨h0, h1⟩
    rw [h3] at h2
    cases h2
/-- the counts that the class keeps, of an order -/
def CW (M : MM) (m : Int) (d : Int → Int) : Prop := ∀ s, 0 ≤ s → s < p2 m → M 10 s = wy m d s ∧ M 11 s = fw m d s
def RC (K : KK) (M : MM) : Prop := M 9 4 = -1 ∨ (55 ≤ M 9 4 ∧ ((K (M 9 4)).1 = 0 ∧ (K (M 9 4 + 1)).1 = 1) ∧ M 9 5 ≤ M (M 9 4) 4 ∧ (M 9 5 = M (M 9 4) 4 → CW M (M (M 9 4) 1) (M (M 9 4 + 1))))
theorem may_cd {d d' : Int → Int} {a b s c : Int} (h : d c = d' c) : may d a b s c = may d' a b s c := by unfold may; rw [h]
theorem foldG_congr {α : Type} {f g : α → Int → α} {z : α} {n : Int} (h : ∀ x c, 0 ≤ c → c < n → f x c = g x c) : foldG n f z = foldG n g z := by
  unfold foldG
  have key : ∀ k : Nat, (k : Int) ≤ n → foldA f z k = foldA g z k := by
    intro k
    induction k with
    | zero => intro _; rfl
    | succ k ih =>
      intro hk
      show f (foldA f z k) k = g (foldA g z k) k
      rw [ih (by omega), h _ _ (by omega) (by omega)]
  by_cases hn : 0 ≤ n
  · exact key _ (by omega)
  · rw [show n.toNat = 0 by omega]; rfl
theorem wyS_cd {m : Int} {d d' : Int → Int} (h : ∀ c, 0 ≤ c → c < m → d c = d' c) (a b k : Int) : wyS m d a b k = wyS m d' a b k := by
  unfold wyS
  refine foldG_congr (fun W s _ _ => ?_)
  unfold wyI
  split
  · refine foldG_congr (fun V c h0 h1 => ?_)
    unfold wyC
    rw [may_cd (h c h0 h1)]
  · rfl
theorem lyN_cd {m : Int} {d d' : Int → Int} (h : ∀ c, 0 ≤ c → c < m → d c = d' c) (a b : Int) : ∀ (k : Nat) (s : Int), lyN m d a b k s = lyN m d' a b k s := by
  intro k
  induction k with
  | zero => intro s; rfl
  | succ k ih =>
    intro s
    refine foldZ_congr (fun x c h0 h1 => ?_)
    show wr (x + (if may d a b s c then lyN m d a b k (plus s c) else 0)) = wr (x + (if may d' a b s c then lyN m d' a b k (plus s c) else 0))
    rw [may_cd (h c h0 h1), ih]
theorem CW.cd {M : MM} {m : Int} {d d' : Int → Int} (hw : CW M m d) (h : ∀ c, 0 ≤ c → c < m → d c = d' c) : CW M m d' := by
  have e1 : ∀ s, wy m d' s = wy m d s := fun s => by unfold wy; rw [wyS_cd h]
  have e2 : ∀ s, fw m d' s = fw m d s := fun s => by unfold fw tl lyF; rw [e1, lyN_cd h]
  intro s h0 h1
  rw [e1, e2]
  exact hw s h0 h1
/-- the counts hold of p -/
theorem RC.at {K : KK} {M : MM} {p : Int} {ci : Nat} {nm m : Int} {d : Int → Int} (hO : OB K M p ci nm m d) (h : RC K M) (h1 : M 9 4 = p) (h2 : M 9 5 = prs m d) : CW M m d := by
  have hg := hO.ge
  rcases h with h | ⟨_, _, _, h⟩
  · omega
  · rw [h1, hO.pc, hO.n] at h
    exact (h h2).cd (fun c h0 h3 => hO.dat ⟨h0, by have := hO.sz; omega⟩)
theorem RC.mk {K : KK} {M : MM} {p : Int} {ci : Nat} {nm m : Int} {d : Int → Int} (hO : OB K M p ci nm m d) (h1 : M 9 4 = p) (h2 : M 9 5 = prs m d) (hw : CW M m d) : RC K M := by
  right
  rw [h1, h2, hO.pc, hO.n]
  exact ⟨hO.ge, ⟨by rw [hO.k], by rw [hO.kd]⟩, Int.le_refl _, fun _ => hw.cd (fun c h0 h3 => (hO.dat ⟨h0, by have := hO.sz; omega⟩).symm)⟩
/-- the last step adds nothing -/
theorem wy_last {m : Int} {d : Int → Int} (hm : 0 ≤ m ∧ m ≤ 10) {t : Int} (ht : 0 ≤ t ∧ t < p2 m) : wyS m d 0 0 (p2 m - 1) t = wy m d t := by
  have hp := p2_b hm
  exact wy_fix hm ht ⟨by omega, by omega⟩
theorem nth_cnt {n : Int} {P : Int → Bool} {v : Int} (hv : 0 ≤ v ∧ v < n) (hp : P v = true) : nth n P 0 (sumZ v (fun s => B (P s))) = v := by
  have key : ∀ (k : Nat) (u : Int), (v - u).toNat = k → 0 ≤ u → u ≤ v → nth n P u (sumZ v (fun s => B (P s)) - sumZ u (fun s => B (P s))) = v := by
    intro k
    induction k with
    | zero =>
      intro u hk h0 h1
      rw [show u = v by omega, nth_s (by omega), if_neg (by omega), if_pos hp, if_pos (by omega)]
    | succ k ih =>
      intro u hk h0 h1
      have h2 := ih (u + 1) (by omega) (by omega) (by omega)
      rw [sumZ_s h0] at h2
      rw [nth_s (by omega)]
      have hle : sumZ (u + 1) (fun s => B (P s)) ≤ sumZ v (fun s => B (P s)) := by
        have key2 : ∀ j : Nat, u + 1 + j ≤ v → sumZ (u + 1) (fun s => B (P s)) ≤ sumZ (u + 1 + j) (fun s => B (P s)) := by
          intro j
          induction j with
          | zero => intro _; rw [show u + 1 + ((0 : Nat) : Int) = u + 1 by omega]; exact Int.le_refl _
          | succ j ihj =>
            intro hj
            have := ihj (by omega)
            rw [show u + 1 + ((j + 1 : Nat) : Int) = (u + 1 + j) + 1 by omega, sumZ_s (c := u + 1 + j) (by omega)]
            have hB := B_01 (P (u + 1 + j))
            show sumZ (u + 1) (fun s => B (P s)) ≤ sumZ (u + 1 + j) (fun s => B (P s)) + B (P (u + 1 + j))
            omega
        have := key2 (v - (u + 1)).toNat (by omega)
        rw [show u + 1 + (((v - (u + 1)).toNat : Nat) : Int) = v by omega] at this
        exact this
      rw [sumZ_s h0] at hle
      cases hu : P u with
      | true =>
        rw [hu] at h2 hle
        have hB : B true = 1 := rfl
        rw [if_neg (by omega), if_pos rfl, if_neg (by omega)]
        rw [show sumZ v (fun s => B (P s)) - sumZ u (fun s => B (P s)) + -1 = sumZ v (fun s => B (P s)) - (sumZ u (fun s => B (P s)) + B true) by omega]
        exact h2
      | false =>
        rw [hu] at h2 hle
        have hB : B false = 0 := rfl
        rw [if_neg (by omega), if_neg (by decide)]
        rw [show sumZ v (fun s => B (P s)) - sumZ u (fun s => B (P s)) = sumZ v (fun s => B (P s)) - (sumZ u (fun s => B (P s)) + B false) by omega]
        exact h2
  have := key _ 0 rfl (by omega) hv.1
  rw [sumZ_0, Int.sub_zero] at this
  exact this
def wyP (m : Int) (d : Int → Int) (s : Int) : Bool := decide (wy m d s ≠ 0)
def lowNC (m : Int) (d : Int → Int) : Int := sumZ (p2 m) (fun s => B (wyP m d s))
theorem wyC_cd {m : Int} {d : Int → Int} {s : Int} {V W : Int → Int} (h : ∀ u, 0 ≤ u → u < p2 m → V u = W u) (hm : 0 ≤ m ∧ m ≤ 10) (hs : 0 ≤ s ∧ s < p2 m) {t : Int} (ht : 0 ≤ t ∧ t < p2 m) : foldG m (wyC d 0 0 s) V t = foldG m (wyC d 0 0 s) W t := by
  have key : ∀ k : Nat, (k : Int) ≤ m → ∀ u, 0 ≤ u → u < p2 m → foldG (k : Int) (wyC d 0 0 s) V u = foldG (k : Int) (wyC d 0 0 s) W u := by
    intro k
    induction k with
    | zero => intro _ u h0 h1; exact h u h0 h1
    | succ k ih =>
      intro hk u h0 h1
      rw [show ((k + 1 : Nat) : Int) = (k : Int) + 1 by omega, foldG_s (by omega), foldG_s (by omega)]
      unfold wyC
      show (if u = plus s k then wr (foldG (k : Int) (wyC d 0 0 s) V u + (if may d 0 0 s k then foldG (k : Int) (wyC d 0 0 s) V s else 0)) else foldG (k : Int) (wyC d 0 0 s) V u) = (if u = plus s k then wr (foldG (k : Int) (wyC d 0 0 s) W u + (if may d 0 0 s k then foldG (k : Int) (wyC d 0 0 s) W s else 0)) else foldG (k : Int) (wyC d 0 0 s) W u)
      rw [ih (by omega) u h0 h1, ih (by omega) s hs.1 hs.2]
  have := key m.toNat (by omega) t ht.1 ht.2
  rw [show ((m.toNat : Nat) : Int) = m by omega] at this
  exact this
