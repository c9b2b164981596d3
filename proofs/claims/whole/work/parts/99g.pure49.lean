/-! ===== layers and height: the class and the model alike ===== -/
theorem fmx_ge {n : Int} {P : Int → Bool} {f : Int → Int} : ∀ k : Nat, (k : Int) ≤ n → ∀ s, 0 ≤ s → s < (k : Int) → P s = true → f s ≤ foldZ (k : Int) (fun b s => if P s && decide (b < f s) then f s else b) 0 := by
  intro k
  induction k with
  | zero => intro _ s h0 h1; omega
  | succ k ih =>
    intro hk s h0 h1 hp
    rw [show ((k + 1 : Nat) : Int) = (k : Int) + 1 by omega, foldZ_s (by omega)]
    have hle : foldZ (k : Int) (fun b s => if P s && decide (b < f s) then f s else b) 0 ≤ (if P k && decide (foldZ (k : Int) (fun b s => if P s && decide (b < f s) then f s else b) 0 < f k) then f k else foldZ (k : Int) (fun b s => if P s && decide (b < f s) then f s else b) 0) := by
      split
      · rename_i h; rw [Bool.and_eq_true, decide_eq_true_eq] at h; omega
      · omega
    by_cases hs : s = k
    · rw [hs] at hp ⊢
      rw [hp, Bool.true_and]
      by_cases hlt : foldZ (k : Int) (fun b s => if P s && decide (b < f s) then f s else b) 0 < f k
      · rw [if_pos (by rw [decide_eq_true hlt])]; exact Int.le_refl _
      · rw [if_neg (by rw [decide_eq_false hlt]; decide)]; omega
    · exact Int.le_trans (ih (by omega) s h0 (by omega) hp) hle
theorem fmx_at {n : Int} {P : Int → Bool} {f : Int → Int} : ∀ k : Nat, (k : Int) ≤ n → foldZ (k : Int) (fun b s => if P s && decide (b < f s) then f s else b) 0 = 0 ∨ ∃ s, 0 ≤ s ∧ s < (k : Int) ∧ P s = true ∧ f s = foldZ (k : Int) (fun b s => if P s && decide (b < f s) then f s else b) 0 := by
  intro k
  induction k with
  | zero => intro _; exact Or.inl rfl
  | succ k ih =>
    intro hk
    rw [show ((k + 1 : Nat) : Int) = (k : Int) + 1 by omega, foldZ_s (by omega)]
    by_cases h : (P k && decide (foldZ (k : Int) (fun b s => if P s && decide (b < f s) then f s else b) 0 < f k)) = true
    · right
      rw [if_pos h]
      rw [Bool.and_eq_true] at h
      exact ⟨k, by omega, by omega, h.1, rfl⟩
    · rw [if_neg h]
      rcases ih (by omega) with q | ⟨s, s0, s1, s2, s3⟩
      · exact Or.inl q
      · exact Or.inr ⟨s, s0, by omega, s2, s3⟩
section LAY
variable {m : Int} {d : Int → Int}
theorem chn_iff (hO : OK m d) {x s : Int} (hx : nn x) (hs : 0 ≤ s ∧ s < p2 m) : chn m d x s = true ↔ (∀ c, 0 ≤ c → c < m → bt s c = true → bt x c = true) ∧ ∀ c e, 0 ≤ c → c < m → 0 ≤ e → e < m → bt s c = true → bt s e = true → c ≠ e → rel d c e = true ∨ rel d e c = true := by
  have hm := hO.1
  have hp := p2_b hm
  unfold chn
  rw [Bool.and_eq_true, sub_iff ⟨hs.1, by omega⟩ hx, allB_iff]
  constructor
  · rintro ⟨h1, h2⟩
    refine ⟨fun c c0 c1 hc => h1 c c0 (by omega) hc, ?_⟩
    have key : ∀ c e, 0 ≤ c → c < e → e < m → bt s c = true → bt s e = true → rel d c e = true ∨ rel d e c = true := by
      intro c e c0 ce e1 hc he
      have h3 := allB_iff.mp (h2 c c0 (by omega)) e (by omega) e1
      rw [decide_eq_false (by omega), hc, he, Bool.false_or, Bool.true_and, Bool.true_and, Bool.not_eq_true'] at h3
      cases q1 : rel d c e with
      | true => exact Or.inl rfl
      | false =>
        cases q2 : rel d e c with
        | true => exact Or.inr rfl
        | false => rw [apr_iff.mpr ⟨by omega, q1, q2⟩] at h3; cases h3
    intro c e c0 c1 e0 e1 hc he hne
    rcases Int.lt_or_gt_of_ne hne with q | q
    · exact key c e c0 q e1 hc he
    · exact (key e c e0 q c1 he hc).symm
  · rintro ⟨h1, h2⟩
    refine ⟨fun c c0 _ hc => ?_, fun c c0 c1 => allB_iff.mpr (fun e e0 e1 => ?_)⟩
    · rcases Int.lt_or_le c m with q | q
      · exact h1 c c0 q hc
      · rw [bt_hi hm hs q] at hc; cases hc
    · by_cases hec : e ≤ c
      · rw [decide_eq_true hec]; rfl
      · rw [decide_eq_false hec, Bool.false_or, Bool.not_eq_true']
        cases hc : bt s c with
        | false => rfl
        | true =>
          cases he : bt s e with
          | false => rfl
          | true =>
            rw [Bool.true_and, Bool.true_and]
            unfold apr
            rcases h2 c e c0 c1 e0 e1 hc he (by omega) with q | q
            · rw [q]; simp
            · rw [q]; simp
theorem lay_ge (hm : 0 ≤ m ∧ m ≤ 10) {a s : Int} (hs : 0 ≤ s ∧ s < p2 m) (h : chn m d (d a) s = true) : cnt s ≤ lay m d a := by
  have hp := p2_b hm
  have := fmx_ge (n := p2 m) (P := chn m d (d a)) (f := cnt) (p2 m).toNat (by omega) s hs.1 (by omega) h
  rw [show (((p2 m).toNat : Nat) : Int) = p2 m by omega] at this
  exact this
theorem lay_at (hP : PO m d) {a : Int} (ha : 0 ≤ a ∧ a < m) : ∃ s, 0 ≤ s ∧ s < p2 m ∧ chn m d (d a) s = true ∧ cnt s = lay m d a := by
  have hm := hP.1.1
  have hp := p2_b hm
  have := fmx_at (n := p2 m) (P := chn m d (d a)) (f := cnt) (p2 m).toNat (by omega)
  rw [show (((p2 m).toNat : Nat) : Int) = p2 m by omega] at this
  rcases this with q | ⟨s, s0, s1, s2, s3⟩
  · refine ⟨0, by omega, by omega, ?_, ?_⟩
    · rw [chn_iff hP.1 (hP.1.nn ⟨ha.1, by omega⟩) ⟨by omega, by omega⟩]
      exact ⟨fun c _ _ h => by (rw [bt_0] at h; cases h), fun c e _ _ _ _ h => by (rw [bt_0] at h; cases h)⟩
    · rw [cnt_0]; exact q.symm
  · exact ⟨s, s0, s1, s2, s3⟩
theorem cnt_less {s e : Int} (hs : nn s) (he : 0 ≤ e ∧ e < 10) (hb : bt s e = true) : cnt (less s e) + 1 = cnt s := by
  have h1 := cnt_plus (s := less s e) (c := e) (nn_less hs ⟨he.1, by omega⟩) he (by rw [bt_less hs ⟨he.1, by omega⟩ he.1, decide_eq_true rfl]; simp)
  rw [plus_less hs ⟨he.1, by omega⟩ hb] at h1
  omega
/-- below: one layer deeper at least -/
theorem lay_lt (hP : PO m d) {a b : Int} (ha : 0 ≤ a ∧ a < m) (hb : 0 ≤ b ∧ b < m) (hr : rel d a b = true) : lay m d a + 1 ≤ lay m d b := by
  have hm := hP.1.1
  have hp := p2_b hm
  obtain ⟨s, s0, s1, s2, s3⟩ := lay_at hP ha
  have hsn : nn s := ⟨s0, by omega⟩
  rw [chn_iff hP.1 (hP.1.nn ⟨ha.1, by omega⟩) ⟨s0, s1⟩] at s2
  have hna : bt s a = false := by
    cases h : bt s a with
    | false => rfl
    | true => have h2 := s2.1 a ha.1 ha.2 h; rw [show bt (d a) a = false from hP.2.1 a ha.1 ha.2] at h2; cases h2
  have hpl := plus_in hm ⟨s0, s1⟩ ha
  have hbp : ∀ c, 0 ≤ c → bt (plus s a) c = (bt s c || decide (a = c)) := fun c c0 => bt_plus hsn ⟨ha.1, by omega⟩ c0
  have hc : chn m d (d b) (plus s a) = true := by
    rw [chn_iff hP.1 (hP.1.nn ⟨hb.1, by omega⟩) hpl]
    refine ⟨fun c c0 c1 h => ?_, fun c e c0 c1 e0 e1 h g hne => ?_⟩
    · rw [hbp c c0, Bool.or_eq_true, decide_eq_true_eq] at h
      rcases h with h | h
      · exact hP.2.2 c a b c0 c1 ha.1 ha.2 hb.1 hb.2 (s2.1 c c0 c1 h) hr
      · rw [← h]; exact hr
    · rw [hbp c c0, Bool.or_eq_true, decide_eq_true_eq] at h
      rw [hbp e e0, Bool.or_eq_true, decide_eq_true_eq] at g
      rcases h with h | h <;> rcases g with g | g
      · exact s2.2 c e c0 c1 e0 e1 h g hne
      · rw [← g]; exact Or.inl (s2.1 c c0 c1 h)
      · rw [← h]; exact Or.inr (s2.1 e e0 e1 g)
      · omega
  have := lay_ge hm hpl hc
  rw [cnt_plus hsn ⟨ha.1, by omega⟩ hna] at this
  omega
/-- one layer deeper there is one below -/
theorem lay_dn (hP : PO m d) {b : Int} (hb : 0 ≤ b ∧ b < m) (h0 : 0 < lay m d b) : ∃ a, 0 ≤ a ∧ a < m ∧ rel d a b = true ∧ lay m d a + 1 = lay m d b := by
  have hm := hP.1.1
  have hp := p2_b hm
  obtain ⟨s, s0, s1, s2, s3⟩ := lay_at hP hb
  have hsn : nn s := ⟨s0, by omega⟩
  rw [chn_iff hP.1 (hP.1.nn ⟨hb.1, by omega⟩) ⟨s0, s1⟩] at s2
  have hne : s ≠ 0 := fun q => by rw [q, cnt_0] at s3; omega
  obtain ⟨e, e0, e1, e2, e3⟩ := low_top hP ⟨s0, s1⟩ hne
  have hr := s2.1 e e0 e1 e2
  refine ⟨e, e0, e1, hr, ?_⟩
  have hl := less_in hm ⟨s0, s1⟩ ⟨e0, e1⟩
  have hbl : ∀ a, 0 ≤ a → bt (less s e) a = (bt s a && !decide (e = a)) := fun a a0 => bt_less hsn ⟨e0, by omega⟩ a0
  have hc : chn m d (d e) (less s e) = true := by
    rw [chn_iff hP.1 (hP.1.nn ⟨e0, by omega⟩) hl]
    refine ⟨fun c c0 c1 h => ?_, fun c f c0 c1 f0 f1 h g hne => ?_⟩
    · rw [hbl c c0, Bool.and_eq_true, Bool.not_eq_true', decide_eq_false_iff_not] at h
      rcases s2.2 c e c0 c1 e0 e1 h.1 e2 (fun q => h.2 q.symm) with q | q
      · exact q
      · rw [e3 c c0 c1 h.1] at q; cases q
    · rw [hbl c c0, Bool.and_eq_true] at h
      rw [hbl f f0, Bool.and_eq_true] at g
      exact s2.2 c f c0 c1 f0 f1 h.1 g.1 hne
  have h1 := lay_ge hm hl hc
  have h2 := cnt_less hsn ⟨e0, by omega⟩ e2
  have h3 := lay_lt hP ⟨e0, e1⟩ hb hr
  omega
theorem lay_nn {a : Int} : 0 ≤ lay m d a ∧ lay m d a ≤ 10 := lay_b (p2 m)
theorem lay_m (hP : PO m d) : ∀ (k : Nat) (b : Int), (cnt (d b)).toNat = k → 0 ≤ b → b < m → lay m d b ≤ cnt (d b) := by
  intro k
  induction k using Nat.strongRecOn with
  | _ k ih =>
    intro b hk b0 b1
    have hc := cnt_b (d b)
    rcases Int.lt_or_le 0 (lay m d b) with q | q
    · obtain ⟨a, a0, a1, a2, a3⟩ := lay_dn hP ⟨b0, b1⟩ q
      have h1 := hP.cnt_lt ⟨a0, a1⟩ ⟨b0, b1⟩ a2
      have h2 := cnt_b (d a)
      have := ih _ (by omega) a rfl a0 a1
      omega
    · omega
theorem lay_lm (hP : PO m d) {b : Int} (hb : 0 ≤ b ∧ b < m) : lay m d b < m := by
  have h1 := lay_m hP _ b rfl hb.1 hb.2
  have h2 := hP.cntm hb
  omega
/-- what is left behind k steps: the things of layer k and more -/
theorem lf_lay (hP : PO m d) : ∀ k : Nat, (0 ≤ lf m d k ∧ lf m d k < p2 m) ∧ ∀ t, 0 ≤ t → t < m → bt (lf m d k) t = decide ((k : Int) ≤ lay m d t) := by
  have hm := hP.1.1
  have hp := p2_b hm
  have hlst : ∀ k : Nat, ((0 ≤ lf m d k ∧ lf m d k < p2 m) ∧ ∀ t, 0 ≤ t → t < m → bt (lf m d k) t = decide ((k : Int) ≤ lay m d t)) → ∀ t, 0 ≤ t → t < m → bt (lst m d (lf m d k)) t = decide (lay m d t = k) := by
    rintro k ⟨hb, h⟩ t t0 t1
    unfold lst
    rw [bt_mk (by omega) _ t0, decide_eq_true t1, Bool.true_and, h t t0 t1]
    by_cases hk : (k : Int) ≤ lay m d t
    · rw [decide_eq_true hk, Bool.true_and, Bool.eq_iff_iff, dis_iff (hP.1.nn ⟨t0, by omega⟩) ⟨hb.1, by omega⟩, decide_eq_true_eq]
      constructor
      · intro g
        rcases Int.lt_or_le k (lay m d t) with q | q
        · exfalso
          obtain ⟨a, a0, a1, a2, a3⟩ := lay_dn hP ⟨t0, t1⟩ (by omega)
          have := g a a0 (by omega) a2
          rw [h a a0 a1, decide_eq_true (by omega)] at this
          cases this
        · omega
      · intro g a a0 _ ha
        have ham := rel_lt hP.1 (a := a) (b := t) ⟨t0, by omega⟩ ha
        have := lay_lt hP ⟨a0, ham⟩ ⟨t0, t1⟩ ha
        rw [h a a0 ham, decide_eq_false (by omega)]
    · rw [decide_eq_false hk, decide_eq_false (by omega)]; rfl
  intro k
  induction k with
  | zero =>
    refine ⟨⟨?_, ?_⟩, fun t t0 t1 => ?_⟩
    · show 0 ≤ p2 m - 1; omega
    · show p2 m - 1 < p2 m; omega
    · show bt (p2 m - 1) t = _
      have := (lay_nn (m := m) (d := d) (a := t)).1
      rw [p2_m1 hm ⟨t0, t1⟩, decide_eq_true (by omega)]
  | succ k ih =>
    have hn1 : nn (lf m d k) := ⟨ih.1.1, by omega⟩
    have hn2 := nn10 (lst_b (d := d) (s := lf m d k) hm)
    rw [show ((k + 1 : Nat) : Int) = (k : Int) + 1 by omega, lf_s (by omega)]
    have hbt : ∀ t, bt (zand (lf m d k) (zxor (lst m d (lf m d k)) (-1))) t = (bt (lf m d k) t && !bt (lst m d (lf m d k)) t) := fun t => bt_zdif hn1 hn2 t
    have hnn := nn_zdif hn1 hn2
    refine ⟨⟨hnn.1, ?_⟩, fun t t0 t1 => ?_⟩
    · rw [p2_eq hm]
      refine lt_of_bt hnn (fun a a0 _ ha => ?_)
      rw [hbt, Bool.and_eq_true] at ha
      rcases Int.lt_or_le a m with q | q
      · omega
      · have h3 := ha.1; rw [bt_hi hm ih.1 q] at h3; cases h3
    · rw [hbt, ih.2 t t0 t1, hlst k ih t t0 t1]
      by_cases h1 : (k : Int) ≤ lay m d t
      · by_cases h2 : lay m d t = k
        · rw [decide_eq_true h2, decide_eq_false (show ¬ (k : Int) + 1 ≤ lay m d t by omega)]; simp
        · rw [decide_eq_false h2, decide_eq_true h1, decide_eq_true (show (k : Int) + 1 ≤ lay m d t by omega)]; rfl
      · rw [decide_eq_false h1, decide_eq_false (show ¬ (k : Int) + 1 ≤ lay m d t by omega)]; rfl
theorem lst_lay (hP : PO m d) {k : Int} (hk : 0 ≤ k) {t : Int} (ht : 0 ≤ t ∧ t < m) : bt (lst m d (lf m d k)) t = decide (lay m d t = k) := by
  have hm := hP.1.1
  have hp := p2_b hm
  obtain ⟨hb, h⟩ := lf_lay hP k.toNat
  rw [show ((k.toNat : Nat) : Int) = k by omega] at hb h
  unfold lst
  rw [bt_mk (by omega) _ ht.1, decide_eq_true ht.2, Bool.true_and, h t ht.1 ht.2]
  by_cases hkl : k ≤ lay m d t
  · rw [decide_eq_true hkl, Bool.true_and, Bool.eq_iff_iff, dis_iff (hP.1.nn ⟨ht.1, by omega⟩) ⟨hb.1, by omega⟩, decide_eq_true_eq]
    constructor
    · intro g
      rcases Int.lt_or_le k (lay m d t) with q | q
      · exfalso
        obtain ⟨a, a0, a1, a2, a3⟩ := lay_dn hP ht (by omega)
        have := g a a0 (by omega) a2
        rw [h a a0 a1, decide_eq_true (by omega)] at this
        cases this
      · omega
    · intro g a a0 _ ha
      have ham := rel_lt hP.1 (a := a) (b := t) ⟨ht.1, by omega⟩ ha
      have := lay_lt hP ⟨a0, ham⟩ ht ha
      rw [h a a0 ham, decide_eq_false (by omega)]
  · rw [decide_eq_false hkl, decide_eq_false (by omega)]; rfl
theorem lay_eq (hP : PO m d) {t : Int} (ht : 0 ≤ t ∧ t < m) : layC m d t = lay m d t := by
  have h1 := (lay_nn (m := m) (d := d) (a := t)).1
  have h2 := lay_lm hP ht
  unfold layC
  rw [rs_first (i := lay m d t) (by rw [lst_lay hP h1 ht, decide_eq_true rfl, if_pos rfl]; omega) (fun j j0 j1 j2 => by rw [lst_lay hP j0 ht, decide_eq_false (fun q => j2 q.symm)]; rfl) ⟨h1, h2⟩, lst_lay hP h1 ht, decide_eq_true rfl, if_pos rfl]
theorem hgt_ge (hm : 0 ≤ m) {a : Int} (ha : 0 ≤ a ∧ a < m) : lay m d a + 1 ≤ hgt m d := by
  have := fmx_ge (n := m) (P := fun _ => true) (f := fun a => lay m d a + 1) m.toNat (by omega) a ha.1 (by omega) rfl
  rw [show ((m.toNat : Nat) : Int) = m by omega] at this
  unfold hgt
  rw [foldZ_congr (g := fun b s => if (true && decide (b < lay m d s + 1)) = true then lay m d s + 1 else b) (fun x c _ _ => by rw [Bool.true_and]; simp only [decide_eq_true_eq])]
  exact this
theorem hgt_at (hm : 0 ≤ m) : hgt m d = 0 ∨ ∃ a, 0 ≤ a ∧ a < m ∧ lay m d a + 1 = hgt m d := by
  have := fmx_at (n := m) (P := fun _ => true) (f := fun a => lay m d a + 1) m.toNat (by omega)
  rw [show ((m.toNat : Nat) : Int) = m by omega] at this
  have e : hgt m d = foldZ m (fun b s => if ((fun _ => true) s && decide (b < (fun a => lay m d a + 1) s)) = true then (fun a => lay m d a + 1) s else b) 0 := by
    unfold hgt
    exact foldZ_congr (fun x c _ _ => by simp only [Bool.true_and, decide_eq_true_eq])
  rw [e]
  rcases this with q | ⟨s, s0, s1, _, s3⟩
  · exact Or.inl q
  · exact Or.inr ⟨s, s0, s1, s3⟩
theorem hgt_le (hP : PO m d) : 0 ≤ hgt m d ∧ hgt m d ≤ m := by
  have hm := hP.1.1
  rcases hgt_at (d := d) hm.1 with q | ⟨a, a0, a1, a2⟩
  · omega
  · have h1 := (lay_nn (m := m) (d := d) (a := a)).1
    have := lay_lm hP ⟨a0, a1⟩
    omega
theorem lf_0 (hP : PO m d) {k : Int} (hk : 0 ≤ k) : lf m d k = 0 ↔ hgt m d ≤ k := by
  have hm := hP.1.1
  have hp := p2_b hm
  obtain ⟨hb, h⟩ := lf_lay hP k.toNat
  rw [show ((k.toNat : Nat) : Int) = k by omega] at hb h
  constructor
  · intro q
    rcases hgt_at (d := d) hm.1 with z | ⟨a, a0, a1, a2⟩
    · omega
    · have := h a a0 a1
      rw [q, bt_0] at this
      have : ¬ k ≤ lay m d a := fun w => by rw [decide_eq_true w] at this; cases this
      omega
  · intro q
    refine bt_ext ⟨hb.1, by omega⟩ ⟨by omega, by omega⟩ (fun a a0 _ => ?_)
    rw [bt_0]
    rcases Int.lt_or_le a m with w | w
    · have := hgt_ge (d := d) hm.1 ⟨a0, w⟩
      rw [h a a0 w, decide_eq_false (by omega)]
    · exact bt_hi hm hb w
theorem hgt_eq (hP : PO m d) : hgtC m d = hgt m d := by
  have hm := hP.1.1
  have hl := hgt_le hP
  unfold hgtC
  rcases rs_P (n := m) (P := fun k => decide (lf m d k = 0)) hm.1 with ⟨h1, h2⟩ | ⟨h1, h2, h3, h4⟩
  · have e : rs m (fun k => if lf m d k = 0 then k else -1) 0 = rs m (fun c => if decide (lf m d c = 0) = true then c else -1) 0 := rs_congr _ 0 rfl (by omega) (fun c _ _ => by simp only [decide_eq_true_eq])
    rw [e, h1, if_pos rfl]
    rcases Int.lt_or_le (hgt m d) m with q | q
    · have := h2 (hgt m d) hl.1 q
      rw [decide_eq_true ((lf_0 hP hl.1).mpr (Int.le_refl _))] at this
      cases this
    · omega
  · have e : rs m (fun k => if lf m d k = 0 then k else -1) 0 = rs m (fun c => if decide (lf m d c = 0) = true then c else -1) 0 := rs_congr _ 0 rfl (by omega) (fun c _ _ => by simp only [decide_eq_true_eq])
    rw [e, if_neg (by omega)]
    generalize hr : rs m (fun c => if decide (lf m d c = 0) = true then c else -1) 0 = r at h1 h2 h3 h4 ⊢
    have h5 := (lf_0 hP h2).mp (by simpa using h1)
    rcases Int.lt_or_le (hgt m d) r with q | q
    · have := h4 (hgt m d) hl.1 q
      rw [decide_eq_true ((lf_0 hP hl.1).mpr (Int.le_refl _))] at this
      cases this
    · omega
end LAY
