/-! ===== rows out are ten factorial at most ===== -/
def fct : Nat → Int
  | 0 => 1
  | n + 1 => ((n : Int) + 1) * fct n
theorem fct_b {n : Nat} (h : n ≤ 10) : 1 ≤ fct n ∧ fct n ≤ 3628800 := by
  have : n = 0 ∨ n = 1 ∨ n = 2 ∨ n = 3 ∨ n = 4 ∨ n = 5 ∨ n = 6 ∨ n = 7 ∨ n = 8 ∨ n = 9 ∨ n = 10 := by omega
  rcases this with rfl | rfl | rfl | rfl | rfl | rfl | rfl | rfl | rfl | rfl | rfl <;> decide
theorem fct_b9 {n : Nat} (h : n ≤ 9) : 1 ≤ fct n ∧ fct n ≤ 362880 := by
  have : n = 0 ∨ n = 1 ∨ n = 2 ∨ n = 3 ∨ n = 4 ∨ n = 5 ∨ n = 6 ∨ n = 7 ∨ n = 8 ∨ n = 9 := by omega
  rcases this with rfl | rfl | rfl | rfl | rfl | rfl | rfl | rfl | rfl | rfl <;> decide
theorem sumN_congr {f g : Int → Int} : ∀ k : Nat, (∀ c : Int, 0 ≤ c → c < k → f c = g c) → sumN f k = sumN g k := by
  intro k
  induction k with
  | zero => intro _; rfl
  | succ k ih =>
    intro h
    show sumN f k + f k = sumN g k + g k
    rw [ih (fun c h0 h1 => h c h0 (by omega)), h k (by omega) (by omega)]
theorem sumZ_congr {n : Int} {f g : Int → Int} (h : ∀ c : Int, 0 ≤ c → c < n → f c = g c) : sumZ n f = sumZ n g := sumN_congr _ (fun c h0 h1 => h c h0 (by omega))
theorem sumN_add (f g : Int → Int) : ∀ k : Nat, sumN (fun c => f c + g c) k = sumN f k + sumN g k := by
  intro k
  induction k with
  | zero => rfl
  | succ k ih => show sumN (fun c => f c + g c) k + (f k + g k) = (sumN f k + f k) + (sumN g k + g k); rw [ih]; omega
theorem sumZ_add (n : Int) (f g : Int → Int) : sumZ n (fun c => f c + g c) = sumZ n f + sumZ n g := sumN_add f g _
theorem sumN_const (x : Int) : ∀ k : Nat, sumN (fun _ => x) k = k * x := by
  intro k
  induction k with
  | zero => simp [sumN]
  | succ k ih => show sumN (fun _ => x) k + x = _; rw [ih, show ((k + 1 : Nat) : Int) = (k : Int) + 1 by omega, Int.add_mul, Int.one_mul]
theorem sumZ_const {n : Int} (h : 0 ≤ n) (x : Int) : sumZ n (fun _ => x) = n * x := by
  unfold sumZ; rw [sumN_const, Int.toNat_of_nonneg h]
/-- a sum with one more at one place -/
theorem sumN_one {f g : Int → Int} {c x : Int} (hc : 0 ≤ c) (hx : g c = f c + x) (h : ∀ e, 0 ≤ e → e ≠ c → g e = f e) : ∀ k : Nat, sumN g k = sumN f k + (if c < k then x else 0) := by
  intro k
  induction k with
  | zero => rw [if_neg (by omega)]; rfl
  | succ k ih =>
    show sumN g k + g k = (sumN f k + f k) + _
    rw [ih]
    by_cases hk : (k : Int) = c
    · rw [hk, hx, if_neg (by omega), if_pos (by omega)]; omega
    · rw [h k (by omega) hk]
      by_cases h2 : c < (k : Int)
      · rw [if_pos h2, if_pos (by omega)]; omega
      · rw [if_neg h2, if_neg (by omega)]; omega
theorem sumZ_one {n : Int} {f g : Int → Int} {c x : Int} (hc : 0 ≤ c ∧ c < n) (hx : g c = f c + x) (h : ∀ e, 0 ≤ e → e ≠ c → g e = f e) : sumZ n g = sumZ n f + x := by
  unfold sumZ
  rw [sumN_one hc.1 hx h, if_pos (by omega)]
/-- a sum whose tail is nothing -/
theorem sumZ_tail {n m : Int} {f : Int → Int} (h0 : 0 ≤ m) (hm : m ≤ n) (h : ∀ c, m ≤ c → c < n → f c = 0) : sumZ n f = sumZ m f := by
  have key : ∀ k : Nat, m + k ≤ n → sumZ (m + k) f = sumZ m f := by
    intro k
    induction k with
    | zero => intro _; simp
    | succ k ih =>
      intro hk
      rw [show m + ((k + 1 : Nat) : Int) = (m + k) + 1 by omega, sumZ_s (by omega), ih (by omega), h _ (by omega) (by omega), Int.add_zero]
  have := key (n - m).toNat (by omega)
  rw [show m + ((n - m).toNat : Int) = n by omega] at this
  exact this
theorem bt_hi {m s : Int} (hm : 0 ≤ m ∧ m ≤ 10) (hs : 0 ≤ s ∧ s < p2 m) {a : Int} (ha : m ≤ a) : bt s a = false := by
  cases h : bt s a with
  | false => rfl
  | true =>
    have := bt_lt (m := m.toNat) hs.1 (by rw [← p2_eq hm]; exact hs.2) h
    omega
theorem cnt_m {m s : Int} (hm : 0 ≤ m ∧ m ≤ 10) (hs : 0 ≤ s ∧ s < p2 m) : cnt s = sumZ m (fun a => B (bt s a)) := sumZ_tail hm.1 hm.2 (fun c h0 _ => by rw [bt_hi hm hs h0]; rfl)
theorem cnt_plus {s c : Int} (hs : nn s) (hc : 0 ≤ c ∧ c < 10) (h : bt s c = false) : cnt (plus s c) = cnt s + 1 := by
  refine sumZ_one hc ?_ (fun e h0 he => ?_)
  · rw [bt_plus hs ⟨hc.1, by omega⟩ hc.1, h]; simp [B]
  · rw [bt_plus hs ⟨hc.1, by omega⟩ h0]
    have : ¬ c = e := fun q => he q.symm
    simp [this]
/-- how many below c are not in s -/
def cb (s c : Int) : Int := sumZ c (fun a => B (!bt s a))
theorem cb_b {s c : Int} (h : 0 ≤ c) : 0 ≤ cb s c ∧ cb s c ≤ c := sumZ_b01 h _
theorem cb_m {m s : Int} (hm : 0 ≤ m ∧ m ≤ 10) (hs : 0 ≤ s ∧ s < p2 m) : cb s m + cnt s = m := by
  rw [cnt_m hm hs]
  unfold cb
  rw [← sumZ_add, sumZ_congr (g := fun _ => 1) (fun c _ _ => by cases bt s c <;> rfl), sumZ_const hm.1, Int.mul_one]
theorem cnt_all {m : Int} (hm : 0 ≤ m ∧ m ≤ 10) : cnt (p2 m - 1) = m := by
  have hp := p2_b hm
  rw [cnt_m hm ⟨by omega, by omega⟩, sumZ_congr (g := fun _ => 1) (fun c h0 h1 => by rw [bt_p2m1 hm h0]; simp [h1, B]), sumZ_const hm.1, Int.mul_one]
theorem ly_step {m : Int} {d : Int → Int} {a b s : Int} {L : Int → Int} (hm : 0 ≤ m ∧ m ≤ 10) (hs : 0 ≤ s ∧ s < p2 m) (hL : ∀ c, 0 ≤ c → c < m → may d a b s c = true → 0 ≤ L (plus s c) ∧ L (plus s c) ≤ fct ((m - cnt s).toNat - 1)) : ∀ k : Nat, (k : Int) ≤ m → foldZ (k : Int) (fun acc c => wr (acc + (if may d a b s c then L (plus s c) else 0))) (B (decide (s = p2 m - 1))) = B (decide (s = p2 m - 1)) + sumZ (k : Int) (fun c => if may d a b s c then L (plus s c) else 0) ∧ 0 ≤ sumZ (k : Int) (fun c => if may d a b s c then L (plus s c) else 0) ∧ sumZ (k : Int) (fun c => if may d a b s c then L (plus s c) else 0) ≤ cb s k * fct ((m - cnt s).toNat - 1) := by
  have hX := fct_b9 (n := (m - cnt s).toNat - 1) (by have := cnt_b s; omega)
  intro k
  induction k with
  | zero => intro _; exact ⟨by simp [foldZ, foldN, sumZ, sumN], by simp [sumZ, sumN], by simp [sumZ, sumN, cb]⟩
  | succ k ih =>
    intro hk
    obtain ⟨h1, h2, h3⟩ := ih (by omega)
    rw [show ((k + 1 : Nat) : Int) = (k : Int) + 1 by omega, foldZ_s (by omega), sumZ_s (by omega), h1]
    have hcb : cb s ((k : Int) + 1) = cb s k + B (!bt s k) := sumZ_s (by omega) _
    have hcbb := cb_b (s := s) (c := k) (by omega)
    have hB := B_01 (decide (s = p2 m - 1))
    have h4 : cb s k * fct ((m - cnt s).toNat - 1) ≤ 10 * 362880 := Int.mul_le_mul (by omega) hX.2 (by omega) (by omega)
    by_cases hmay : may d a b s k = true
    · have hb := may_nb hmay
      have h5 := hL k (by omega) (by omega) hmay
      rw [if_pos hmay, hcb, hb, show B (!false) = 1 from rfl, Int.add_mul, Int.one_mul, wr_in ⟨by omega, by omega⟩]
      exact ⟨by omega, by omega, by omega⟩
    · rw [if_neg hmay, wr_in ⟨by omega, by omega⟩, hcb]
      have h6 : 0 ≤ B (!bt s k) * fct ((m - cnt s).toNat - 1) := Int.mul_nonneg (by have := B_01 (!bt s k); omega) (by omega)
      rw [Int.add_mul]
      exact ⟨by omega, by omega, by omega⟩
theorem ly_b0 {m : Int} {d : Int → Int} {a b : Int} (hm : 0 ≤ m ∧ m ≤ 10) : ∀ (k : Nat) (s : Int), 0 ≤ s ∧ s < p2 m → 0 ≤ lyN m d a b k s ∧ lyN m d a b k s ≤ fct (m - cnt s).toNat := by
  intro k
  induction k with
  | zero => intro s hs; have := fct_b (n := (m - cnt s).toNat) (by have := cnt_b s; omega); exact ⟨Int.le_refl 0, by show 0 ≤ _; omega⟩
  | succ k ih =>
    intro s hs
    have hp := p2_b hm
    have hst := ly_step (d := d) (a := a) (b := b) (L := lyN m d a b k) hm hs (fun c h0 h1 hmay => by
      have h2 := ih (plus s c) (plus_in hm hs ⟨h0, h1⟩)
      rw [cnt_plus ⟨hs.1, by omega⟩ ⟨h0, by omega⟩ (may_nb hmay)] at h2
      rw [show (m - cnt s).toNat - 1 = (m - (cnt s + 1)).toNat by omega]
      exact h2) m.toNat (by omega)
    rw [show ((m.toNat : Nat) : Int) = m by omega] at hst
    obtain ⟨h1, h2, h3⟩ := hst
    have e : lyN m d a b (k + 1) s = foldZ m (fun acc c => wr (acc + (if may d a b s c then lyN m d a b k (plus s c) else 0))) (B (decide (s = p2 m - 1))) := rfl
    rw [e, h1]
    have hcb := cb_m hm hs
    have hB := B_01 (decide (s = p2 m - 1))
    refine ⟨by omega, ?_⟩
    by_cases hj : cb s m = 0
    · rw [hj, Int.zero_mul] at h3
      have := fct_b (n := (m - cnt s).toNat) (by have := cnt_b s; omega)
      omega
    · have hne : s ≠ p2 m - 1 := by
        intro q
        rw [q, cnt_all hm] at hcb
        rw [q] at hj
        omega
      have hcbb := cb_b (s := s) (c := m) hm.1
      rw [show (m - cnt s).toNat = ((m - cnt s).toNat - 1) + 1 by omega]
      show _ ≤ ((((m - cnt s).toNat - 1 : Nat) : Int) + 1) * fct ((m - cnt s).toNat - 1)
      rw [show ((((m - cnt s).toNat - 1 : Nat) : Int) + 1) = cb s m by omega]
      simp only [hne, decide_false, B]
      omega
theorem ly_b {m : Int} {d : Int → Int} {a b s : Int} (hm : 0 ≤ m ∧ m ≤ 10) (hs : 0 ≤ s ∧ s < p2 m) : 0 ≤ lyF m d a b s ∧ lyF m d a b s ≤ fct (m - cnt s).toNat := ly_b0 hm _ s hs
theorem ly_b10 {m : Int} {d : Int → Int} {a b s : Int} (hm : 0 ≤ m ∧ m ≤ 10) (hs : 0 ≤ s ∧ s < p2 m) : 0 ≤ lyF m d a b s ∧ lyF m d a b s ≤ 3628800 := by
  have h1 := ly_b (d := d) (a := a) (b := b) hm hs
  have h2 := fct_b (n := (m - cnt s).toNat) (by have := cnt_b s; omega)
  omega
/-- the recurrence, without wrapping -/
theorem ly_sum {m : Int} {d : Int → Int} {a b s : Int} (hm : 0 ≤ m ∧ m ≤ 10) (hs : 0 ≤ s ∧ s < p2 m) : lyF m d a b s = B (decide (s = p2 m - 1)) + sumZ m (fun c => if may d a b s c then lyF m d a b (plus s c) else 0) := by
  have hp := p2_b hm
  have hst := ly_step (d := d) (a := a) (b := b) (L := lyF m d a b) hm hs (fun c h0 h1 hmay => by
    have h2 := ly_b (d := d) (a := a) (b := b) hm (plus_in hm hs ⟨h0, h1⟩)
    rw [cnt_plus ⟨hs.1, by omega⟩ ⟨h0, by omega⟩ (may_nb hmay)] at h2
    rw [show (m - cnt s).toNat - 1 = (m - (cnt s + 1)).toNat by omega]
    exact h2) m.toNat (by omega)
  rw [show ((m.toNat : Nat) : Int) = m by omega] at hst
  rw [lyF_eq hm hs]
  exact hst.1
