/-! ===== words: ways to a set, bounded ===== -/
theorem plus_inj {s e f : Int} (hs : nn s) (he : 0 ≤ e ∧ e < 31) (hf : 0 ≤ f ∧ f < 31) (hb : bt s e = false) (h : plus s e = plus s f) : e = f := by
  have h1 := bt_plus hs he (a := e) he.1
  have h2 := bt_plus hs hf (a := e) he.1
  rw [h, h2, hb] at h1
  simp at h1
  exact h1.symm
theorem wy_fold {d : Int → Int} {a b s t : Int} {W : Int → Int} (hs : nn s) (hWs : 0 ≤ W s ∧ W s ≤ 3628800) (hWt : 0 ≤ W t ∧ W t ≤ 3628800) : ∀ k : Nat, (k : Int) ≤ 10 → foldG (k : Int) (wyC d a b s) W t = W t + sumZ (k : Int) (fun e => if decide (t = plus s e) && may d a b s e then W s else 0) ∧ (sumZ (k : Int) (fun e => if decide (t = plus s e) && may d a b s e then W s else 0) = 0 ∨ (sumZ (k : Int) (fun e => if decide (t = plus s e) && may d a b s e then W s else 0) = W s ∧ ∃ e : Int, 0 ≤ e ∧ e < (k : Int) ∧ t = plus s e ∧ bt s e = false)) := by
  intro k
  induction k with
  | zero => intro _; exact ⟨by simp [foldG, foldA, sumZ, sumN], Or.inl rfl⟩
  | succ k ih =>
    intro hk
    obtain ⟨h1, h2⟩ := ih (by omega)
    have hself := wy_self (d := d) (a := a) (b := b) hs (show inR (W s) from ⟨by omega, by omega⟩) k (by omega)
    rw [show ((k + 1 : Nat) : Int) = (k : Int) + 1 by omega, foldG_s (by omega), sumZ_s (by omega)]
    show (if t = plus s k then wr (foldG (k : Int) (wyC d a b s) W t + (if may d a b s k then foldG (k : Int) (wyC d a b s) W s else 0)) else foldG (k : Int) (wyC d a b s) W t) = _ ∧ _
    rw [hself, h1]
    by_cases ht : t = plus s k
    · rw [if_pos ht]
      by_cases hm : may d a b s k = true
      · have hb := may_nb hm
        have hz : sumZ (k : Int) (fun e => if decide (t = plus s e) && may d a b s e then W s else 0) = 0 := by
          rcases h2 with h2 | ⟨_, e, e0, e1, e2, e3⟩
          · exact h2
          · have := plus_inj (f := k) hs ⟨e0, by omega⟩ ⟨by omega, by omega⟩ e3 (by rw [← e2]; exact ht)
            omega
        rw [hz, if_pos hm, if_pos (by simp [ht, hm]), wr_in ⟨by omega, by omega⟩]
        exact ⟨by omega, Or.inr ⟨by omega, k, by omega, by omega, ht, hb⟩⟩
      · rw [if_neg hm, if_neg (by simp [hm]), wr_in (by rcases h2 with h2 | ⟨h2, _⟩ <;> rw [h2] <;> exact ⟨by omega, by omega⟩)]
        refine ⟨by omega, ?_⟩
        rcases h2 with h2 | ⟨h2, e, e0, e1, e2, e3⟩
        · exact Or.inl (by omega)
        · exact Or.inr ⟨by omega, e, e0, by omega, e2, e3⟩
    · rw [if_neg ht, if_neg (by simp [ht])]
      refine ⟨by omega, ?_⟩
      rcases h2 with h2 | ⟨h2, e, e0, e1, e2, e3⟩
      · exact Or.inl (by omega)
      · exact Or.inr ⟨by omega, e, e0, by omega, e2, e3⟩
/-- the set with one thing less -/
def less (t c : Int) : Int := zand t (zxor (zshl 1 c) (-1))
theorem nn_plus {s c : Int} (hs : nn s) (hc : 0 ≤ c ∧ c < 31) : nn (plus s c) := nn_zor hs (nn_zshl1 hc)
theorem bt_less {t c : Int} (ht : nn t) (hc : 0 ≤ c ∧ c < 31) {a : Int} (ha : 0 ≤ a) : bt (less t c) a = (bt t a && !decide (c = a)) := by
  unfold less
  rw [bt_zdif ht (nn_zshl1 hc), bt_zshl1 hc ha]
theorem nn_less {t c : Int} (ht : nn t) (hc : 0 ≤ c ∧ c < 31) : nn (less t c) := nn_zdif ht (nn_zshl1 hc)
theorem less_plus {s c : Int} (hs : nn s) (hc : 0 ≤ c ∧ c < 31) (hb : bt s c = false) : less (plus s c) c = s := by
  refine bt_ext (nn_less (nn_plus hs hc) hc) hs (fun a h0 _ => ?_)
  rw [bt_less (nn_plus hs hc) hc h0, bt_plus hs hc h0]
  by_cases h : c = a
  · subst h; simp [hb]
  · simp [h]
theorem plus_less {t c : Int} (ht : nn t) (hc : 0 ≤ c ∧ c < 31) (hb : bt t c = true) : plus (less t c) c = t := by
  refine bt_ext (nn_plus (nn_less ht hc) hc) ht (fun a h0 _ => ?_)
  rw [bt_plus (nn_less ht hc) hc h0, bt_less ht hc h0]
  by_cases h : c = a
  · subst h; simp [hb]
  · simp [h]
theorem sumN_le {f g : Int → Int} : ∀ k : Nat, (∀ c : Int, 0 ≤ c → c < k → f c ≤ g c) → sumN f k ≤ sumN g k := by
  intro k
  induction k with
  | zero => intro _; exact Int.le_refl 0
  | succ k ih =>
    intro h
    have h1 := ih (fun c h0 h1 => h c h0 (by omega))
    have h2 := h k (by omega) (by omega)
    show sumN f k + f k ≤ sumN g k + g k
    omega
theorem sumZ_le {n : Int} {f g : Int → Int} (h : ∀ c : Int, 0 ≤ c → c < n → f c ≤ g c) : sumZ n f ≤ sumZ n g := sumN_le _ (fun c h0 h1 => h c h0 (by omega))
theorem sumN_le1 {f g : Int → Int} {j x : Int} (hj : g j ≥ f j + x) (h0 : 0 ≤ j) : ∀ k : Nat, j < k → (∀ c : Int, 0 ≤ c → c < k → f c ≤ g c) → sumN f k + x ≤ sumN g k := by
  intro k
  induction k with
  | zero => intro h; omega
  | succ k ih =>
    intro h1 h
    show sumN f k + f k + x ≤ sumN g k + g k
    by_cases hk : j = k
    · have := sumN_le (f := f) (g := g) k (fun c h0 h1 => h c h0 (by omega))
      rw [hk] at hj
      omega
    · have h2 := ih (by omega) (fun c h0 h1 => h c h0 (by omega))
      have h3 := h k (by omega) (by omega)
      omega
theorem sumZ_le1 {n : Int} {f g : Int → Int} {j x : Int} (h0 : 0 ≤ j ∧ j < n) (hj : g j ≥ f j + x) (h : ∀ c : Int, 0 ≤ c → c < n → f c ≤ g c) : sumZ n f + x ≤ sumZ n g := sumN_le1 hj h0.1 _ (by omega) (fun c h0 h1 => h c h0 (by omega))
/-- how many of the sets with one thing less than t come below k -/
def lessN (m t k : Int) : Int := sumZ m (fun c => B (bt t c && decide (less t c < k)))
theorem B_mono {p q : Bool} (h : p = true → q = true) : B p ≤ B q := by cases p <;> cases q <;> simp_all [B]
theorem lessN_b {m t k : Int} (hm : 0 ≤ m ∧ m ≤ 10) (ht : 0 ≤ t ∧ t < p2 m) : 0 ≤ lessN m t k ∧ lessN m t k ≤ cnt t := by
  refine ⟨(sumZ_b01 hm.1 _).1, ?_⟩
  rw [cnt_m hm ht]
  exact sumZ_le (fun c _ _ => B_mono (by simp; exact fun h _ => h))
theorem lessN_s {m t k : Int} : lessN m t k ≤ lessN m t (k + 1) := sumZ_le (fun c _ _ => B_mono (by simp; exact fun h h2 => ⟨h, by omega⟩))
theorem lessN_p {m k c : Int} (hk : nn k) (hm : 0 ≤ m ∧ m ≤ 10) (hc : 0 ≤ c ∧ c < m) (hb : bt k c = false) : lessN m (plus k c) k + 1 ≤ lessN m (plus k c) (k + 1) := by
  refine sumZ_le1 hc ?_ (fun c _ _ => B_mono (by simp; exact fun h h2 => ⟨h, by omega⟩))
  have hc31 : 0 ≤ c ∧ c < 31 := ⟨hc.1, by omega⟩
  have h1 : bt (plus k c) c = true := by rw [bt_plus hk hc31 hc.1]; simp
  show B (bt (plus k c) c && decide (less (plus k c) c < k + 1)) ≥ B (bt (plus k c) c && decide (less (plus k c) c < k)) + 1
  rw [h1, less_plus hk hc31 hb, decide_eq_true (show k < k + 1 by omega), decide_eq_false (show ¬ k < k by omega)]
  decide
theorem cnt_pos {t : Int} (ht : nn t) (h1 : t < 1024) (h : t ≠ 0) : 0 < cnt t := by
  by_cases hq : cnt t = 0
  · exfalso
    apply h
    refine bt_ext ht ⟨by omega, by omega⟩ (fun a h0 h31 => ?_)
    rw [bt_0]
    cases hb : bt t a with
    | false => rfl
    | true =>
      have := bt_lt (m := 10) ht.1 (by simpa using h1) hb
      have h3 := sumZ_le1 (n := 10) (f := fun _ => 0) (g := fun a => B (bt t a)) (j := a) (x := 1) ⟨h0, by omega⟩ (by rw [hb]; decide) (fun c _ _ => by have := B_01 (bt t c); show 0 ≤ B (bt t c); omega)
      rw [sumZ_const (by omega)] at h3
      have : sumZ 10 (fun a => B (bt t a)) = 0 := hq
      omega
  · have := cnt_b t; omega
theorem fct_s {k : Nat} : fct (k + 1) = ((k : Int) + 1) * fct k := rfl
theorem wy_b0 {m : Int} {d : Int → Int} {a b : Int} (hm : 0 ≤ m ∧ m ≤ 10) : ∀ k : Nat, (k : Int) ≤ p2 m → wyS m d a b k 0 = 1 ∧ ∀ t, 0 ≤ t → t < p2 m → t ≠ 0 → 0 ≤ wyS m d a b k t ∧ wyS m d a b k t ≤ lessN m t k * fct ((cnt t).toNat - 1) := by
  have hp := p2_b hm
  intro k
  induction k with
  | zero =>
    intro _
    refine ⟨rfl, fun t h0 h1 hne => ?_⟩
    show 0 ≤ (if t = 0 then (1 : Int) else 0) ∧ (if t = 0 then (1 : Int) else 0) ≤ _
    rw [if_neg hne]
    refine ⟨Int.le_refl 0, Int.mul_nonneg (lessN_b hm ⟨h0, h1⟩).1 ?_⟩
    have := fct_b (n := (cnt t).toNat - 1) (by have := cnt_b t; omega)
    omega
  | succ k ih =>
    intro hk
    obtain ⟨i0, ih⟩ := ih (by omega)
    have hkn : nn (k : Int) := ⟨by omega, by omega⟩
    have hf : ∀ t, 0 ≤ t → t < p2 m → 0 ≤ wyS m d a b k t ∧ wyS m d a b k t ≤ fct (cnt t).toNat := by
      intro t h0 h1
      by_cases hz : t = 0
      · rw [hz, i0]; exact ⟨by decide, by decide⟩
      · have h2 := ih t h0 h1 hz
        have h3 := cnt_pos ⟨h0, by omega⟩ (by omega) hz
        have h4 := lessN_b (k := k) hm ⟨h0, h1⟩
        have h5 := fct_b (n := (cnt t).toNat - 1) (by have := cnt_b t; omega)
        refine ⟨h2.1, Int.le_trans h2.2 ?_⟩
        rw [show (cnt t).toNat = ((cnt t).toNat - 1) + 1 by omega, fct_s]
        exact Int.mul_le_mul (by omega) (by rw [show (cnt t).toNat - 1 + 1 - 1 = (cnt t).toNat - 1 by omega]; exact Int.le_refl _) (by rw [show (cnt t).toNat - 1 + 1 - 1 = (cnt t).toNat - 1 by omega]; omega) (by omega)
    have hb10 : ∀ t, 0 ≤ t → t < p2 m → 0 ≤ wyS m d a b k t ∧ wyS m d a b k t ≤ 3628800 := by
      intro t h0 h1
      have := hf t h0 h1
      have := fct_b (n := (cnt t).toNat) (by have := cnt_b t; omega)
      omega
    rw [show ((k + 1 : Nat) : Int) = (k : Int) + 1 by omega, wyS_s (by omega)]
    by_cases hpos : 0 < wyS m d a b k k
    · rw [wyI_pos hpos]
      have key : ∀ t, 0 ≤ t → t < p2 m → foldG m (wyC d a b k) (wyS m d a b k) t = wyS m d a b k t ∨ (foldG m (wyC d a b k) (wyS m d a b k) t = wyS m d a b k t + wyS m d a b k k ∧ ∃ e, 0 ≤ e ∧ e < m ∧ t = plus k e ∧ bt k e = false) := by
        intro t h0 h1
        have hw := wy_fold (d := d) (a := a) (b := b) hkn (hb10 k (by omega) (by omega)) (hb10 t h0 h1) m.toNat (by omega)
        rw [show ((m.toNat : Nat) : Int) = m by omega] at hw
        rcases hw with ⟨w1, w2 | ⟨w2, w3⟩⟩
        · left; omega
        · right; obtain ⟨e, e0, e1, e2, e3⟩ := w3; exact ⟨by omega, e, e0, by omega, e2, e3⟩
      refine ⟨?_, fun t h0 h1 hne => ?_⟩
      · rcases key 0 (by omega) (by omega) with h | ⟨_, e, e0, e1, e2, e3⟩
        · rw [h, i0]
        · have := bt_plus hkn (c := e) ⟨e0, by omega⟩ e0
          rw [← e2, bt_0] at this
          simp at this
      · have h2 := ih t h0 h1 hne
        have h5 := fct_b (n := (cnt t).toNat - 1) (by have := cnt_b t; omega)
        rcases key t h0 h1 with h | ⟨h, e, e0, e1, e2, e3⟩
        · rw [h]
          refine ⟨h2.1, Int.le_trans h2.2 (Int.mul_le_mul_of_nonneg_right lessN_s (by omega))⟩
        · rw [h]
          have h6 := hf k (by omega) (by omega)
          have h7 := cnt_plus hkn ⟨e0, by omega⟩ e3
          rw [← e2] at h7
          have h8 := lessN_p hkn hm ⟨e0, e1⟩ e3
          rw [← e2] at h8
          refine ⟨by omega, ?_⟩
          rw [show (cnt k).toNat = (cnt t).toNat - 1 by have := cnt_b k; omega] at h6
          have h9 : (lessN m t k + 1) * fct ((cnt t).toNat - 1) ≤ lessN m t (k + 1) * fct ((cnt t).toNat - 1) := Int.mul_le_mul_of_nonneg_right h8 (by omega)
          rw [Int.add_mul, Int.one_mul] at h9
          omega
    · rw [wyI_neg hpos]
      refine ⟨i0, fun t h0 h1 hne => ?_⟩
      have h2 := ih t h0 h1 hne
      have h5 := fct_b (n := (cnt t).toNat - 1) (by have := cnt_b t; omega)
      exact ⟨h2.1, Int.le_trans h2.2 (Int.mul_le_mul_of_nonneg_right lessN_s (by omega))⟩
theorem wy_f {m : Int} {d : Int → Int} {a b k t : Int} (hm : 0 ≤ m ∧ m ≤ 10) (hk : 0 ≤ k ∧ k ≤ p2 m) (ht : 0 ≤ t ∧ t < p2 m) : 0 ≤ wyS m d a b k t ∧ wyS m d a b k t ≤ fct (cnt t).toNat := by
  have hp := p2_b hm
  have h := wy_b0 (d := d) (a := a) (b := b) hm k.toNat (by omega)
  rw [show ((k.toNat : Nat) : Int) = k by omega] at h
  by_cases hz : t = 0
  · rw [hz, h.1]; exact ⟨by decide, by decide⟩
  · have h2 := h.2 t ht.1 ht.2 hz
    have h3 := cnt_pos ⟨ht.1, by omega⟩ (by omega) hz
    have h4 := lessN_b (k := k) hm ht
    have h5 := fct_b (n := (cnt t).toNat - 1) (by have := cnt_b t; omega)
    refine ⟨h2.1, Int.le_trans h2.2 ?_⟩
    rw [show (cnt t).toNat = ((cnt t).toNat - 1) + 1 by omega, fct_s]
    exact Int.mul_le_mul (by omega) (by rw [show (cnt t).toNat - 1 + 1 - 1 = (cnt t).toNat - 1 by omega]; exact Int.le_refl _) (by rw [show (cnt t).toNat - 1 + 1 - 1 = (cnt t).toNat - 1 by omega]; omega) (by omega)
theorem wy_b10 {m : Int} {d : Int → Int} {a b k t : Int} (hm : 0 ≤ m ∧ m ≤ 10) (hk : 0 ≤ k ∧ k ≤ p2 m) (ht : 0 ≤ t ∧ t < p2 m) : 0 ≤ wyS m d a b k t ∧ wyS m d a b k t ≤ 3628800 := by
  have h1 := wy_f (d := d) (a := a) (b := b) hm hk ht
  have h2 := fct_b (n := (cnt t).toNat) (by have := cnt_b t; omega)
  omega
/-- the step, without wrapping -/
theorem wy_step {m : Int} {d : Int → Int} {a b k t : Int} (hm : 0 ≤ m ∧ m ≤ 10) (hk : 0 ≤ k ∧ k < p2 m) (ht : 0 ≤ t ∧ t < p2 m) : wyS m d a b (k + 1) t = wyS m d a b k t + sumZ m (fun e => if decide (t = plus k e) && may d a b k e then wyS m d a b k k else 0) := by
  have hp := p2_b hm
  have hkn : nn k := ⟨by omega, by omega⟩
  rw [wyS_s hk.1]
  have hb := wy_b10 (d := d) (a := a) (b := b) hm (k := k) ⟨hk.1, by omega⟩ hk
  by_cases hpos : 0 < wyS m d a b k k
  · rw [wyI_pos hpos]
    have hw := wy_fold (d := d) (a := a) (b := b) hkn hb (wy_b10 (d := d) (a := a) (b := b) hm (k := k) ⟨hk.1, by omega⟩ ht) m.toNat (by omega)
    rw [show ((m.toNat : Nat) : Int) = m by omega] at hw
    exact hw.1
  · rw [wyI_neg hpos, sumZ_congr (g := fun _ => 0) (fun c _ _ => by split <;> omega), sumZ_const hm.1]
    omega
/-- the sum of the places -/
def plV (m : Int) (d : Int → Int) (t s : Int) : Int := if can d s t then wyS m d 0 0 (p2 m) s * tl m d (plus s t) * cnt s else 0
def plS (m : Int) (d : Int → Int) (t : Int) : Int := sumZ (p2 m) (plV m d t)
theorem plV_b {m : Int} {d : Int → Int} {t s : Int} (hm : 0 ≤ m ∧ m ≤ 10) (ht : 0 ≤ t ∧ t < m) (hs : 0 ≤ s ∧ s < p2 m) : 0 ≤ plV m d t s ∧ plV m d t s ≤ 131681894400000 := by
  have hp := p2_b hm
  have h1 := wy_b10 (d := d) (a := 0) (b := 0) hm (k := p2 m) ⟨by omega, by omega⟩ hs
  have h2 := ly_b10 (d := d) (a := 0) (b := 0) hm (plus_in hm hs ht)
  have h3 := cnt_b s
  have h4 : 0 ≤ wyS m d 0 0 (p2 m) s * tl m d (plus s t) := Int.mul_nonneg h1.1 h2.1
  have h5 : wyS m d 0 0 (p2 m) s * tl m d (plus s t) ≤ 3628800 * 3628800 := Int.mul_le_mul h1.2 h2.2 h2.1 (by omega)
  have h6 : 0 ≤ wyS m d 0 0 (p2 m) s * tl m d (plus s t) * cnt s := Int.mul_nonneg h4 h3.1
  have h7 : wyS m d 0 0 (p2 m) s * tl m d (plus s t) * cnt s ≤ 3628800 * 3628800 * 10 := Int.mul_le_mul h5 h3.2 h3.1 (by omega)
  unfold plV
  split <;> omega
theorem plS_b {m : Int} {d : Int → Int} {t k : Int} (hm : 0 ≤ m ∧ m ≤ 10) (ht : 0 ≤ t ∧ t < m) (hk : 0 ≤ k ∧ k ≤ p2 m) : 0 ≤ sumZ k (plV m d t) ∧ sumZ k (plV m d t) ≤ k * 131681894400000 := sumZ_b hk.1 (fun c h0 h1 => plV_b hm ht ⟨h0, by omega⟩)
