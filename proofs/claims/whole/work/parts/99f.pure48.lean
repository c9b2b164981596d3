/-! ===== places, before, fair: the class and the model alike ===== -/
theorem fct_mul {a b : Nat} (h : a + b ≤ 9) : fct a * fct b ≤ 362880 := by
  have key : ∀ x y : Fin 10, x.val + y.val ≤ 9 → fct x.val * fct y.val ≤ 362880 := by decide
  exact key ⟨a, by omega⟩ ⟨b, by omega⟩ h
section PLC
variable {m : Int} {d : Int → Int}
theorem wt_b (hm : 0 ≤ m ∧ m ≤ 10) {s t : Int} (hs : 0 ≤ s ∧ s < p2 m) (ht : 0 ≤ t ∧ t < m) (hb : bt s t = false) : 0 ≤ wy m d s * tl m d (plus s t) ∧ wy m d s * tl m d (plus s t) ≤ 362880 := by
  have hp := p2_b hm
  have h1 := wy_f (d := d) (a := 0) (b := 0) hm (k := p2 m) ⟨by omega, by omega⟩ hs
  have h2 := ly_b (d := d) (a := 0) (b := 0) hm (plus_in hm hs ht)
  rw [cnt_plus ⟨hs.1, by omega⟩ ⟨ht.1, by omega⟩ hb] at h2
  have h3 := cnt_plus (s := s) (c := t) ⟨hs.1, by omega⟩ ⟨ht.1, by omega⟩ hb
  have h4 := cb_m hm (plus_in hm hs ht)
  have h5 := cb_b (s := plus s t) (c := m) hm.1
  have h6 := cnt_b s
  refine ⟨Int.mul_nonneg h1.1 h2.1, Int.le_trans (Int.mul_le_mul h1.2 h2.2 h2.1 ?_) (fct_mul (by omega))⟩
  have := fct_b (n := (cnt s).toNat) (by omega)
  omega
theorem wtC_eq (hm : 0 ≤ m ∧ m ≤ 10) {s t : Int} (hs : 0 ≤ s ∧ s < p2 m) (ht : 0 ≤ t ∧ t < m) : wtC m d s t = if can d s t then wy m d s * tl m d (plus s t) else 0 := by
  unfold wtC
  by_cases hw : wy m d s = 0
  · rw [if_pos hw, hw, Int.zero_mul]; split <;> rfl
  · rw [if_neg hw]
    by_cases hc : can d s t = true
    · rw [if_pos hc, if_pos hc, fw_tl (wy_up hm hs ht hw hc)]
      have := wt_b (d := d) hm hs ht (may_nb hc)
      exact wr_in ⟨by omega, by omega⟩
    · rw [if_neg hc, if_neg hc]
theorem can_full (hm : 0 ≤ m ∧ m ≤ 10) {t : Int} (ht : 0 ≤ t ∧ t < m) : can d (p2 m - 1) t = false := by
  cases h : can d (p2 m - 1) t with
  | false => rfl
  | true => have := may_nb h; rw [p2_m1 hm ht] at this; cases this
theorem plC_eq (hm : 0 ≤ m ∧ m ≤ 10) {t : Int} (ht : 0 ≤ t ∧ t < m) : plC m d t = plS m d t := by
  have hp := p2_b hm
  unfold plC plS
  have e : sumZ (p2 m) (plV m d t) = sumZ (p2 m - 1) (plV m d t) := by
    refine sumZ_tail (by omega) (by omega) (fun c h0 h1 => ?_)
    have : c = p2 m - 1 := by omega
    unfold plV
    rw [this, can_full hm ht]
    rfl
  rw [e]
  refine sumZ_congr (fun s h0 h1 => ?_)
  rw [wtC_eq hm ⟨h0, by omega⟩ ht]
  unfold plV
  split
  · show cnt s * (wy m d s * tl m d (plus s t)) = wy m d s * tl m d (plus s t) * cnt s
    rw [Int.mul_comm]
  · rw [Int.mul_zero]
/-- where b is in the set already, a ahead of b is no question any more -/
theorem ly_in (hm : 0 ≤ m ∧ m ≤ 10) {a b : Int} : ∀ (k : Nat) (s : Int), 0 ≤ s → s < p2 m → (p2 m - s).toNat = k → 0 ≤ b → bt s b = true → lyF m d a b s = tl m d s := by
  have hp := p2_b hm
  intro k
  induction k using Nat.strongRecOn with
  | _ k ih =>
    intro s s0 s1 hk hb0 hb
    unfold tl
    rw [ly_sum hm ⟨s0, s1⟩, ly_sum hm ⟨s0, s1⟩]
    congr 1
    refine sumZ_congr (fun c c0 c1 => ?_)
    have e : may d a b s c = may d 0 0 s c := by
      unfold may
      by_cases hcb : c = b
      · rw [hcb, hb]; simp
      · rw [decide_eq_true hcb]; simp
    rw [e]
    by_cases hm1 : may d 0 0 s c = true
    · rw [if_pos hm1, if_pos hm1]
      have hpl := plus_in hm ⟨s0, s1⟩ ⟨c0, c1⟩
      have hgt := plus_gt (s := s) (c := c) ⟨s0, by omega⟩ ⟨c0, by omega⟩ (may_nb hm1)
      exact ih _ (by omega) (plus s c) hpl.1 hpl.2 rfl hb0 (by rw [bt_plus ⟨s0, by omega⟩ ⟨c0, by omega⟩ hb0, hb]; rfl)
    · rw [if_neg hm1, if_neg hm1]
def aHk (m : Int) (d : Int → Int) (a b k s : Int) : Int := if s < k then (if bt s a && can d s b then wy m d s * tl m d (plus s b) else 0) else if bt s b then 0 else wyS m d 0 0 k s * lyF m d a b s
theorem sumN_mul (x : Int) (f : Int → Int) : ∀ k : Nat, sumN (fun c => f c * x) k = sumN f k * x := by
  intro k
  induction k with
  | zero => show (0 : Int) = 0 * x; rw [Int.zero_mul]
  | succ k ih => show sumN (fun c => f c * x) k + f k * x = (sumN f k + f k) * x; rw [ih, Int.add_mul]
theorem sumZ_mul (n x : Int) (f : Int → Int) : sumZ n (fun c => f c * x) = sumZ n f * x := sumN_mul x f _
theorem aHk_step (hm : 0 ≤ m ∧ m ≤ 10) {a b k : Int} (ha : 0 ≤ a ∧ a < m) (hb : 0 ≤ b ∧ b < m) (hab : a ≠ b) (hk : 0 ≤ k ∧ k < p2 m) : sumZ (p2 m) (aHk m d a b (k + 1)) = sumZ (p2 m) (aHk m d a b k) := by
  have hp := p2_b hm
  have hkn : nn k := ⟨hk.1, by omega⟩
  have hwk : wyS m d 0 0 k k = wy m d k := wy_fix hm hk ⟨by omega, by omega⟩
  by_cases hbk : bt k b = true
  · refine sumZ_congr (fun s s0 s1 => ?_)
    unfold aHk
    by_cases h1 : s < k
    · rw [if_pos h1, if_pos (show s < k + 1 by omega)]
    · rw [if_neg h1]
      by_cases h2 : s = k
      · rw [h2, if_pos (show k < k + 1 by omega), if_pos hbk]
        have : can d k b = false := by
          cases h : can d k b with
          | false => rfl
          | true => have := may_nb h; rw [hbk] at this; cases this
        rw [this, Bool.and_false]; rfl
      · rw [if_neg (show ¬ s < k + 1 by omega)]
        by_cases h3 : bt s b = true
        · rw [if_pos h3, if_pos h3]
        · rw [if_neg h3, if_neg h3, wy_step hm hk ⟨s0, s1⟩, sumZ_0f (fun e e0 e1 => ?_), Int.add_zero]
          rw [if_neg]
          rw [Bool.and_eq_true, decide_eq_true_eq]
          rintro ⟨q1, q2⟩
          apply h3
          rw [q1, bt_plus hkn ⟨e0, by omega⟩ hb.1, hbk]; rfl
  · -- b not in k
    have hbk' : bt k b = false := by simpa using hbk
    have hne : k ≠ p2 m - 1 := fun q => by rw [q, p2_m1 hm hb] at hbk'; cases hbk'
    -- the sum of what is added
    have key : ∀ s, 0 ≤ s → s < p2 m → aHk m d a b (k + 1) s + (if s = k then wy m d k * lyF m d a b k else 0) = aHk m d a b k s + ((if s = k then (if bt k a && can d k b then wy m d k * tl m d (plus k b) else 0) else 0) + sumZ m (fun e => if s = plus k e then (if can d k e && decide (e ≠ b) then wy m d k * lyF m d a b (plus k e) else 0) else 0)) := by
      intro s s0 s1
      have hz : s ≤ k → sumZ m (fun e => if s = plus k e then (if can d k e && decide (e ≠ b) then wy m d k * lyF m d a b (plus k e) else 0) else 0) = 0 := by
        intro hsk
        refine sumZ_0f (fun e e0 e1 => ?_)
        by_cases q1 : s = plus k e
        · rw [if_pos q1]
          by_cases q2 : can d k e = true
          · have := plus_gt hkn (c := e) ⟨e0, by omega⟩ (may_nb q2)
            omega
          · rw [if_neg]; rw [Bool.and_eq_true]; exact fun q => q2 q.1
        · rw [if_neg q1]
      unfold aHk
      by_cases h1 : s < k
      · rw [if_pos h1, if_pos (show s < k + 1 by omega), if_neg (show ¬ s = k by omega), if_neg (show ¬ s = k by omega), hz (by omega)]
        omega
      · rw [if_neg h1]
        by_cases h2 : s = k
        · rw [hz (by omega), h2, if_pos (show k < k + 1 by omega), if_pos rfl, if_pos rfl, if_neg hbk, hwk]
          omega
        · rw [if_neg (show ¬ s < k + 1 by omega), if_neg h2, if_neg h2]
          by_cases h3 : bt s b = true
          · rw [if_pos h3, if_pos h3]
            rw [sumZ_0f (fun e e0 e1 => ?_)]
            · rfl
            · by_cases q1 : s = plus k e
              · rw [if_pos q1, if_neg]
                rw [Bool.and_eq_true, decide_eq_true_eq]
                rintro ⟨q2, q3⟩
                rw [q1, bt_plus hkn ⟨e0, by omega⟩ hb.1, hbk', decide_eq_false q3] at h3
                cases h3
              · rw [if_neg q1]
          · rw [if_neg h3, if_neg h3, wy_step hm hk ⟨s0, s1⟩, Int.add_mul, ← sumZ_mul, hwk]
            rw [sumZ_congr (f := fun c => (if decide (s = plus k c) && may d 0 0 k c then wy m d k else 0) * lyF m d a b s) (g := fun e => if s = plus k e then (if can d k e && decide (e ≠ b) then wy m d k * lyF m d a b (plus k e) else 0) else 0) (fun e e0 e1 => ?_)]
            · omega
            · by_cases q1 : s = plus k e
              · have q3 : e ≠ b := fun q => h3 (by rw [q1, q, bt_plus hkn ⟨hb.1, by omega⟩ hb.1]; simp)
                rw [if_pos q1, ← q1, show decide (s = s) = true by simp, decide_eq_true q3, Bool.true_and, Bool.and_true]
                show (if can d k e then wy m d k else 0) * _ = _
                by_cases q2 : can d k e = true
                · rw [if_pos q2, if_pos q2]
                · rw [if_neg q2, if_neg q2, Int.zero_mul]
              · rw [if_neg q1, decide_eq_false q1, Bool.false_and]
                show (if false = true then wy m d k else 0) * _ = 0
                rw [if_neg (by decide), Int.zero_mul]
    have hsum := sumZ_congr (n := p2 m) key
    rw [sumZ_add, sumZ_add, sumZ_add, sumZ_at hk, sumZ_at hk, sumZ_swap] at hsum
    rw [sumZ_congr (n := m) (f := fun j => sumZ (p2 m) (fun s => if s = plus k j then (if can d k j && decide (j ≠ b) then wy m d k * lyF m d a b (plus k j) else 0) else 0)) (g := fun e => if can d k e && decide (e ≠ b) then wy m d k * lyF m d a b (plus k e) else 0) (fun e e0 e1 => sumZ_at (plus_in hm hk ⟨e0, e1⟩))] at hsum
    -- the recurrence at k
    have hrec : wy m d k * lyF m d a b k = (if bt k a && can d k b then wy m d k * tl m d (plus k b) else 0) + sumZ m (fun e => if can d k e && decide (e ≠ b) then wy m d k * lyF m d a b (plus k e) else 0) := by
      rw [ly_sum hm hk, decide_eq_false hne, show B false = 0 from rfl, Int.zero_add, Int.mul_comm, ← sumZ_mul]
      have h1 := sumZ_one (n := m) (f := fun e => if can d k e && decide (e ≠ b) then wy m d k * lyF m d a b (plus k e) else 0) (g := fun c => (if may d a b k c then lyF m d a b (plus k c) else 0) * wy m d k) (c := b) (x := if bt k a && can d k b then wy m d k * tl m d (plus k b) else 0) hb (by
        show (if may d a b k b then lyF m d a b (plus k b) else 0) * wy m d k = (if can d k b && decide (b ≠ b) then wy m d k * lyF m d a b (plus k b) else 0) + (if bt k a && can d k b then wy m d k * tl m d (plus k b) else 0)
        have hpl := plus_in hm hk hb
        rw [show decide (b ≠ b) = false by simp, Bool.and_false, if_neg (by decide : ¬ false = true), Int.zero_add]
        have e1 : may d a b k b = (bt k a && can d k b) := by
          unfold can may
          rw [decide_eq_false hab, show decide (b ≠ b) = false by simp]
          cases bt k a <;> simp
        rw [e1]
        by_cases q : (bt k a && can d k b) = true
        · rw [if_pos q, if_pos q, ly_in hm _ (plus k b) hpl.1 hpl.2 rfl hb.1 (by rw [bt_plus hkn ⟨hb.1, by omega⟩ hb.1]; simp), Int.mul_comm]
        · rw [if_neg q, if_neg q, Int.zero_mul]) (fun e e0 he => by
        show (if may d a b k e then lyF m d a b (plus k e) else 0) * wy m d k = (if can d k e && decide (e ≠ b) then wy m d k * lyF m d a b (plus k e) else 0)
        have e1 : may d a b k e = can d k e := by
          unfold can may
          rw [decide_eq_true he]; simp
        rw [e1, decide_eq_true he, Bool.and_true]
        by_cases q : can d k e = true
        · rw [if_pos q, if_pos q, Int.mul_comm]
        · rw [if_neg q, if_neg q, Int.zero_mul])
      rw [h1]; omega
    omega
theorem ah_sum (hm : 0 ≤ m ∧ m ≤ 10) {a b : Int} (ha : 0 ≤ a ∧ a < m) (hb : 0 ≤ b ∧ b < m) (hab : a ≠ b) : sumZ (p2 m) (fun s => if bt s a && can d s b then wy m d s * tl m d (plus s b) else 0) = lyF m d a b 0 := by
  have hp := p2_b hm
  have key : ∀ k : Nat, (k : Int) ≤ p2 m → sumZ (p2 m) (aHk m d a b k) = lyF m d a b 0 := by
    intro k
    induction k with
    | zero =>
      intro _
      have h := sumZ_at (n := p2 m) (j := 0) (x := lyF m d a b 0) ⟨by omega, by omega⟩
      rw [← h]
      refine sumZ_congr (fun s s0 s1 => ?_)
      unfold aHk
      rw [if_neg (by omega)]
      by_cases hz : s = 0
      · rw [if_pos hz, hz, bt_0, if_neg (by decide)]
        show (1 : Int) * _ = _
        rw [Int.one_mul]
      · rw [if_neg hz]
        split
        · rfl
        · show (if s = 0 then (1 : Int) else 0) * _ = 0
          rw [if_neg hz, Int.zero_mul]
    | succ k ih =>
      intro hk
      rw [show ((k + 1 : Nat) : Int) = (k : Int) + 1 by omega, aHk_step hm ha hb hab ⟨by omega, by omega⟩]
      exact ih (by omega)
  have h := key (p2 m).toNat (by omega)
  rw [show (((p2 m).toNat : Nat) : Int) = p2 m by omega] at h
  rw [← h]
  refine sumZ_congr (fun s s0 s1 => ?_)
  unfold aHk
  rw [if_pos s1]
theorem ah_eq (hm : 0 ≤ m ∧ m ≤ 10) {a b : Int} (ha : 0 ≤ a ∧ a < m) (hb : 0 ≤ b ∧ b < m) (hab : a ≠ b) : ahC m d a b = lyF m d a b 0 := by
  have hp := p2_b hm
  rw [← ah_sum hm ha hb hab]
  have e : sumZ (p2 m) (fun s => if bt s a && can d s b then wy m d s * tl m d (plus s b) else 0) = sumZ (p2 m - 1) (fun s => if bt s a && can d s b then wy m d s * tl m d (plus s b) else 0) := by
    refine sumZ_tail (by omega) (by omega) (fun c h0 h1 => ?_)
    rw [show c = p2 m - 1 by omega, can_full hm hb, Bool.and_false]
    rfl
  rw [e]
  unfold ahC
  have key : ∀ k : Nat, (k : Int) ≤ p2 m - 1 → foldZ (k : Int) (fun acc s => if bt s a then wr (acc + wtC m d s b) else acc) 0 = sumZ (k : Int) (fun s => if bt s a && can d s b then wy m d s * tl m d (plus s b) else 0) ∧ (0 ≤ sumZ (k : Int) (fun s => if bt s a && can d s b then wy m d s * tl m d (plus s b) else 0) ∧ sumZ (k : Int) (fun s => if bt s a && can d s b then wy m d s * tl m d (plus s b) else 0) ≤ k * 362880) := by
    intro k
    induction k with
    | zero => intro _; exact ⟨rfl, by show (0 : Int) ≤ 0; omega, by show (0 : Int) ≤ 0 * _; omega⟩
    | succ k ih =>
      intro hk
      obtain ⟨h1, h2, h3⟩ := ih (by omega)
      rw [show ((k + 1 : Nat) : Int) = (k : Int) + 1 by omega, foldZ_s (by omega), sumZ_s (by omega), h1, wtC_eq hm (s := k) ⟨by omega, by omega⟩ hb]
      show (if bt k a then wr (_ + (if can d k b then wy m d k * tl m d (plus k b) else 0)) else _) = _ + (if bt k a && can d k b then wy m d k * tl m d (plus k b) else 0) ∧ 0 ≤ _ + (if bt k a && can d k b then wy m d k * tl m d (plus k b) else 0) ∧ _ + (if bt k a && can d k b then wy m d k * tl m d (plus k b) else 0) ≤ _
      by_cases q1 : bt k a = true
      · by_cases q2 : can d k b = true
        · have hwb := wt_b (d := d) hm (s := k) ⟨by omega, by omega⟩ hb (may_nb q2)
          rw [if_pos q1, if_pos q2, if_pos (by rw [q1, q2]; rfl)]
          exact ⟨wr_in ⟨by omega, by omega⟩, by omega, by omega⟩
        · rw [if_pos q1, if_neg q2, if_neg (by rw [q1]; simpa using q2), Int.add_zero]
          exact ⟨wr_in ⟨by omega, by omega⟩, by omega, by omega⟩
      · rw [if_neg q1, if_neg (by rw [Bool.and_eq_true]; exact fun q => q1 q.1)]
        exact ⟨by omega, by omega, by omega⟩
  have := (key (p2 m - 1).toNat (by omega)).1
  rw [show (((p2 m - 1).toNat : Nat) : Int) = p2 m - 1 by omega] at this
  exact this
theorem fair_eq (hm : 0 ≤ m ∧ m ≤ 10) : fairC m d = fairF m d := by
  have hp := p2_b hm
  unfold fairC fairF
  refine rs_congr _ 0 rfl (by omega) (fun a a0 a1 => rs_congr _ (a + 1) rfl (by omega) (fun b b0 b1 => ?_))
  unfold frC fairV
  by_cases h : apr d a b = true
  · have hne := (apr_iff.mp h).1
    have hb := ly_b10 (d := d) (a := a) (b := b) hm (s := 0) ⟨by omega, by omega⟩
    rw [ah_eq hm ⟨a0, a1⟩ ⟨b0, b1⟩ hne, wr_in (show inR (11 * lyF m d a b 0) from ⟨by omega, by omega⟩), Bool.and_assoc]
  · rw [show apr d a b = false by simpa using h]; rfl
end PLC
