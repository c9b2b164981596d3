/-! ===== low sets are the sets that rows out come through ===== -/
theorem rel_cnt {m : Int} {d : Int → Int} (hP : PO m d) {a b : Int} (ha : 0 ≤ a ∧ a < m) (hb : 0 ≤ b ∧ b < m) (hr : rel d a b = true) : cnt (d a) + 1 ≤ cnt (d b) := by
  have hm := hP.1.1
  refine sumZ_le1 (n := 10) (f := fun c => B (bt (d a) c)) (g := fun c => B (bt (d b) c)) (j := a) (x := 1) ⟨ha.1, by omega⟩ ?_ (fun c c0 c1 => ?_)
  · show B (bt (d b) a) ≥ B (bt (d a) a) + 1
    rw [show bt (d b) a = true from hr, show bt (d a) a = false from hP.2.1 a ha.1 ha.2]
    decide
  · show B (bt (d a) c) ≤ B (bt (d b) c)
    cases h : bt (d a) c
    · have := B_01 (bt (d b) c); show (0 : Int) ≤ _; omega
    · have hc : c < m := rel_lt hP.1 (a := c) (b := a) ⟨ha.1, by omega⟩ h
      rw [show bt (d b) c = true from hP.2.2 c a b c0 hc ha.1 ha.2 hb.1 hb.2 h hr]
      exact Int.le_refl _
theorem low_top {m : Int} {d : Int → Int} (hP : PO m d) {t : Int} (ht : 0 ≤ t ∧ t < p2 m) (h0 : t ≠ 0) : ∃ e, 0 ≤ e ∧ e < m ∧ bt t e = true ∧ ∀ x, 0 ≤ x → x < m → bt t x = true → rel d e x = false := by
  have hm := hP.1.1
  have hp := p2_b hm
  rcases Classical.em (∃ e, 0 ≤ e ∧ e < m ∧ bt t e = true ∧ ∀ x, 0 ≤ x → x < m → bt t x = true → rel d e x = false) with q | q
  · exact q
  · exfalso
    have hst : ∀ e, 0 ≤ e → e < m → bt t e = true → ∃ x, 0 ≤ x ∧ x < m ∧ bt t x = true ∧ rel d e x = true := by
      intro e e0 e1 e2
      rcases Classical.em (∃ x, 0 ≤ x ∧ x < m ∧ bt t x = true ∧ rel d e x = true) with r | r
      · exact r
      · exact absurd ⟨e, e0, e1, e2, fun x x0 x1 x2 => by
          cases hx : rel d e x
          · rfl
          · exact absurd ⟨x, x0, x1, x2, hx⟩ r⟩ q
    have hne : ∃ e, 0 ≤ e ∧ e < m ∧ bt t e = true := by
      rcases Classical.em (∃ e, 0 ≤ e ∧ e < m ∧ bt t e = true) with r | r
      · exact r
      · exfalso
        apply h0
        refine bt_ext ⟨ht.1, by omega⟩ ⟨by omega, by omega⟩ (fun a a0 _ => ?_)
        rw [bt_0]
        cases ha : bt t a
        · rfl
        · rcases Int.lt_or_le a m with w | w
          · exact absurd ⟨a, a0, w, ha⟩ r
          · rw [bt_hi hm ht w] at ha; cases ha
    have up : ∀ k : Nat, ∃ e, 0 ≤ e ∧ e < m ∧ bt t e = true ∧ (k : Int) ≤ cnt (d e) := by
      intro k
      induction k with
      | zero => obtain ⟨e, e0, e1, e2⟩ := hne; exact ⟨e, e0, e1, e2, (cnt_b _).1⟩
      | succ k ih =>
        obtain ⟨e, e0, e1, e2, e3⟩ := ih
        obtain ⟨x, x0, x1, x2, x3⟩ := hst e e0 e1 e2
        have := rel_cnt hP ⟨e0, e1⟩ ⟨x0, x1⟩ x3
        exact ⟨x, x0, x1, x2, by omega⟩
    obtain ⟨e, -, -, -, h⟩ := up 11
    have := (cnt_b (d e)).2
    omega
theorem low_iff {m : Int} {d : Int → Int} (hO : OK m d) {s : Int} (hs : 0 ≤ s ∧ s < p2 m) : low m d s = true ↔ ∀ a b, 0 ≤ a → a < m → 0 ≤ b → b < m → bt s a = true → rel d b a = true → bt s b = true := by
  have hm := hO.1
  have hp := p2_b hm
  have hn : nn s := ⟨hs.1, by omega⟩
  unfold low
  rw [allB_iff]
  constructor
  · intro h a b a0 a1 b0 b1 ha hr
    have h1 := h a a0 a1
    rw [ha] at h1
    exact (sub_iff (hO.nn ⟨a0, by omega⟩) hn).mp (by simpa using h1) b b0 (by omega) hr
  · intro h a a0 a1
    cases ha : bt s a
    · rfl
    · have := (sub_iff (hO.nn ⟨a0, by omega⟩) hn).mpr (fun b b0 _ hb => h a b a0 a1 b0 (rel_lt hO (b := a) ⟨a0, by omega⟩ hb) ha hb)
      rw [this]; rfl
theorem wy_low {m : Int} {d : Int → Int} (hP : PO m d) : ∀ k : Nat, ∀ t : Int, 0 ≤ t → t < p2 m → cnt t = k → (wy m d t ≠ 0 ↔ low m d t = true) := by
  have hm := hP.1.1
  have hp := p2_b hm
  intro k
  induction k with
  | zero =>
    intro t t0 t1 hc
    have : t = 0 := by
      rcases Classical.em (t = 0) with q | q
      · exact q
      · have := cnt_pos ⟨t0, by omega⟩ (by omega) q; omega
    subst this
    rw [wy_00 hm, low_iff hP.1 ⟨t0, t1⟩]
    exact ⟨fun _ a b _ _ _ _ h => by (rw [bt_0] at h; cases h), fun _ => by decide⟩
  | succ k ih =>
    intro t t0 t1 hc
    have hn : nn t := ⟨t0, by omega⟩
    have hne : t ≠ 0 := fun q => by rw [q, cnt_0] at hc; omega
    have hcl : ∀ e, 0 ≤ e → e < m → bt t e = true → cnt (less t e) = k := by
      intro e e0 e1 he
      have h1 := cnt_plus (s := less t e) (c := e) (nn_less hn ⟨e0, by omega⟩) ⟨e0, by omega⟩ (by rw [bt_less hn ⟨e0, by omega⟩ e0, decide_eq_true rfl]; simp)
      rw [plus_less hn ⟨e0, by omega⟩ he] at h1
      omega
    constructor
    · intro hw
      rw [wy_rec hm ⟨t0, t1⟩, decide_eq_false hne] at hw
      rcases Classical.em (∃ e, 0 ≤ e ∧ e < m ∧ (bt t e && can d (less t e) e) = true ∧ wy m d (less t e) ≠ 0) with q | q
      · obtain ⟨e, e0, e1, e2, e3⟩ := q
        rw [Bool.and_eq_true] at e2
        have hl := less_in hm ⟨t0, t1⟩ ⟨e0, e1⟩
        have hlow := (low_iff hP.1 hl).mp ((ih _ hl.1 hl.2 (hcl e e0 e1 e2.1)).mp e3)
        have hsub := (sub_iff (hP.1.nn ⟨e0, by omega⟩) (nn_less hn ⟨e0, by omega⟩)).mp (can_iff.mp e2.2).2
        rw [low_iff hP.1 ⟨t0, t1⟩]
        intro a b a0 a1 b0 b1 ha hr
        have key : bt (less t e) b = true := by
          by_cases hae : e = a
          · exact hsub b b0 (by omega) (by rw [hae]; exact hr)
          · exact hlow a b a0 a1 b0 b1 (by rw [bt_less hn ⟨e0, by omega⟩ a0, ha, decide_eq_false hae]; rfl) hr
        rw [bt_less hn ⟨e0, by omega⟩ b0, Bool.and_eq_true] at key
        exact key.1
      · exfalso
        apply hw
        show B false + _ = 0
        rw [sumZ_0f (fun e e0 e1 => ?_)]
        · rfl
        · show (if bt t e && can d (less t e) e then wy m d (less t e) else 0) = 0
          by_cases hb : (bt t e && can d (less t e) e) = true
          · rw [if_pos hb]
            rcases Classical.em (wy m d (less t e) = 0) with r | r
            · exact r
            · exact absurd ⟨e, e0, e1, hb, r⟩ q
          · rw [if_neg hb]
    · intro hlow
      rw [low_iff hP.1 ⟨t0, t1⟩] at hlow
      obtain ⟨e, e0, e1, e2, e3⟩ := low_top hP ⟨t0, t1⟩ hne
      have hl := less_in hm ⟨t0, t1⟩ ⟨e0, e1⟩
      have hbl : ∀ a, 0 ≤ a → bt (less t e) a = (bt t a && !decide (e = a)) := fun a a0 => bt_less hn ⟨e0, by omega⟩ a0
      have h1 : low m d (less t e) = true := by
        rw [low_iff hP.1 hl]
        intro a b a0 a1 b0 b1 ha hr
        rw [hbl a a0, Bool.and_eq_true] at ha
        rw [hbl b b0, hlow a b a0 a1 b0 b1 ha.1 hr]
        by_cases hbe : e = b
        · rw [← hbe, e3 a a0 a1 ha.1] at hr; cases hr
        · rw [decide_eq_false hbe]; rfl
      have h2 : can d (less t e) e = true := by
        rw [can_iff]
        refine ⟨by rw [hbl e e0, decide_eq_true rfl]; simp, (sub_iff (hP.1.nn ⟨e0, by omega⟩) (nn_less hn ⟨e0, by omega⟩)).mpr (fun b b0 _ hb => ?_)⟩
        have hbm := rel_lt hP.1 (a := b) (b := e) ⟨e0, by omega⟩ hb
        rw [hbl b b0, hlow e b e0 e1 b0 hbm e2 hb]
        by_cases hbe : e = b
        · rw [← hbe] at hb; rw [show bt (d e) e = false from hP.2.1 e e0 e1] at hb; cases hb
        · rw [decide_eq_false hbe]; rfl
      have := wy_up hm hl ⟨e0, e1⟩ ((ih _ hl.1 hl.2 (hcl e e0 e1 e2)).mpr h1) h2
      rw [plus_less hn ⟨e0, by omega⟩ e2] at this
      exact this
theorem wyP_low {m : Int} {d : Int → Int} (hP : PO m d) {t : Int} (h0 : 0 ≤ t) (h1 : t < p2 m) : wyP m d t = low m d t := by
  have h := wy_low hP (cnt t).toNat t h0 h1 (by have := (cnt_b t).1; omega)
  unfold wyP
  cases hl : low m d t
  · rw [hl] at h; exact decide_eq_false (fun q => absurd (h.mp q) (by decide))
  · rw [hl] at h; exact decide_eq_true (h.mpr rfl)
theorem lowNC_eq {m : Int} {d : Int → Int} (hP : PO m d) : lowNC m d = lowN m d := sumZ_congr (fun s h0 h1 => by rw [wyP_low hP h0 h1])
theorem nth_congr {n : Int} {P Q : Int → Bool} : ∀ (k : Nat) (s i : Int), (n - s).toNat = k → 0 ≤ s → (∀ c, 0 ≤ c → c < n → P c = Q c) → nth n P s i = nth n Q s i := by
  intro k
  induction k with
  | zero => intro s i hk _ _; rw [nth_e (by omega), nth_e (by omega)]
  | succ k ih =>
    intro s i hk h0 h
    rw [nth_s (n := n) (s := s) (by omega) P i, nth_s (n := n) (s := s) (by omega) Q i, h s h0 (by omega), ih (s + 1) (i + -1) (by omega) (by omega) h, ih (s + 1) i (by omega) (by omega) h]
theorem nth_low {m : Int} {d : Int → Int} (hP : PO m d) (i : Int) : nth (p2 m) (wyP m d) 0 i = lowI m d i := nth_congr _ 0 i rfl (by omega) (fun c h0 h1 => wyP_low hP h0 h1)
