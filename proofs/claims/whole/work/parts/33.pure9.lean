/-! ===== a row out by its rank has each thing ===== -/
theorem fd_ok {m : Int} {d : Int → Int} {s r : Int} (hm : 0 ≤ m ∧ m ≤ 10) (hs : 0 ≤ s ∧ s < p2 m) (hc : cnt s < m) (hr : 0 ≤ r ∧ r < tl m d s) : (0 ≤ (fd m d s r).1 ∧ (fd m d s r).1 < m) ∧ can d s (fd m d s r).1 = true ∧ 0 ≤ (fd m d s r).2 ∧ (fd m d s r).2 < tl m d (plus s (fd m d s r).1) := by
  have hna := all_of_cnt hm hs hc
  have hsum := ly_sum (d := d) (a := 0) (b := 0) hm hs
  rw [show B (decide (s = p2 m - 1)) = 0 by simp [hna, B], Int.zero_add] at hsum
  change tl m d s = sumZ m (fun c => if can d s c then tl m d (plus s c) else 0) at hsum
  have key : ∀ (k : Nat) (w c : Int), (m - c).toNat = k → 0 ≤ c ∧ c ≤ m → 0 ≤ w → w = r - sumZ c (fun c => if can d s c then tl m d (plus s c) else 0) → (0 ≤ (fdN m d s k w c).1 ∧ (fdN m d s k w c).1 < m) ∧ can d s (fdN m d s k w c).1 = true ∧ 0 ≤ (fdN m d s k w c).2 ∧ (fdN m d s k w c).2 < tl m d (plus s (fdN m d s k w c).1) := by
    intro k
    induction k with
    | zero => intro w c hk h1 h2 h3; rw [show c = m by omega, ← hsum] at h3; omega
    | succ k ih =>
      intro w c hk h1 h2 h3
      have hlt : c < m := by omega
      show (0 ≤ (if can d s c && decide (w < tl m d (plus s c)) then (c, w) else fdN m d s k (w - (if can d s c then tl m d (plus s c) else 0)) (c + 1)).1 ∧ _) ∧ _
      by_cases hq : (can d s c && decide (w < tl m d (plus s c))) = true
      · have e : fdN m d s (k + 1) w c = (c, w) := if_pos hq
        rw [e, if_pos hq]
        simp only [Bool.and_eq_true, decide_eq_true_eq] at hq
        exact ⟨⟨h1.1, hlt⟩, hq.1, h2, hq.2⟩
      · have e : fdN m d s (k + 1) w c = fdN m d s k (w - (if can d s c then tl m d (plus s c) else 0)) (c + 1) := if_neg hq
        rw [e, if_neg hq]
        refine ih _ (c + 1) (by omega) (by omega) ?_ (by rw [sumZ_s h1.1, h3]; omega)
        by_cases hcan : can d s c = true
        · rw [if_pos hcan]
          simp only [hcan, Bool.true_and, decide_eq_true_eq] at hq
          omega
        · rw [if_neg hcan]; omega
  exact key m.toNat r 0 (by omega) (by omega) hr.1 (by rw [sumZ_0]; omega)
theorem fdS_ok {m : Int} {d : Int → Int} {rk : Int} (hm : 0 ≤ m ∧ m ≤ 10) (hr : 0 ≤ rk ∧ rk < tl m d 0) : ∀ k : Nat, (k : Int) ≤ m → (0 ≤ (fdS m d rk k).1 ∧ (fdS m d rk k).1 < p2 m) ∧ cnt (fdS m d rk k).1 = k ∧ (0 ≤ (fdS m d rk k).2 ∧ (fdS m d rk k).2 < tl m d (fdS m d rk k).1) ∧ ∀ t, 0 ≤ t → t < m → bt (fdS m d rk k).1 t = true → ∃ j, 0 ≤ j ∧ j < (k : Int) ∧ fdO m d rk j = t := by
  have hp := p2_b hm
  intro k
  induction k with
  | zero =>
    intro _
    refine ⟨⟨Int.le_refl 0, by show (0 : Int) < _; omega⟩, (by show cnt 0 = 0; decide), hr, fun t h0 h1 hb => ?_⟩
    have : bt 0 t = true := hb
    rw [bt_0] at this
    cases this
  | succ k ih =>
    intro hk
    obtain ⟨h1, h2, h3, h4⟩ := ih (by omega)
    have hf := fd_ok hm h1 (by omega) h3
    have hpl := plus_in hm h1 hf.1
    have hnb := may_nb hf.2.1
    rw [show ((k + 1 : Nat) : Int) = (k : Int) + 1 by omega, fdS_s (by omega)]
    refine ⟨hpl, ?_, hf.2.2, fun t h0 ht hb => ?_⟩
    · show cnt (plus _ _) = _
      unfold fdO
      rw [cnt_plus ⟨h1.1, by omega⟩ ⟨hf.1.1, by omega⟩ hnb, h2]
    · have hO : 0 ≤ fdO m d rk k ∧ fdO m d rk k < 31 := ⟨hf.1.1, by have := hf.1.2; show (fd m d _ _).1 < 31; omega⟩
      change bt (plus (fdS m d rk k).1 (fdO m d rk k)) t = true at hb
      rw [bt_plus ⟨h1.1, by omega⟩ hO h0, Bool.or_eq_true] at hb
      rcases hb with hb | hb
      · obtain ⟨j, j0, j1, j2⟩ := h4 t h0 ht hb
        exact ⟨j, j0, by omega, j2⟩
      · exact ⟨k, by omega, by omega, by simpa using hb⟩
theorem cnt_full {m s : Int} (hm : 0 ≤ m ∧ m ≤ 10) (hs : 0 ≤ s ∧ s < p2 m) (h : cnt s = m) {t : Int} (ht : 0 ≤ t ∧ t < m) : bt s t = true := by
  cases hb : bt s t with
  | true => rfl
  | false =>
    have hp := p2_b hm
    have h1 := cnt_plus (s := s) (c := t) ⟨hs.1, by omega⟩ ⟨ht.1, by omega⟩ hb
    have h2 := cb_m hm (plus_in hm hs ht)
    have h3 := cb_b (s := plus s t) (c := m) hm.1
    omega
theorem rs_ne {n : Int} {f : Int → Int} : ∀ (k : Nat) (v j : Int), (n - v).toNat = k → v ≤ j → j < n → f j ≠ -1 → rs n f v ≠ -1 := by
  intro k
  induction k with
  | zero => intro v j hk h1 h2 _; omega
  | succ k ih =>
    intro v j hk h1 h2 h3
    rw [rs_s (by omega)]
    by_cases hv : f v = -1
    · rw [hv, oe_m]
      refine ih (v + 1) j (by omega) ?_ h2 h3
      by_cases hq : v = j
      · rw [hq] at hv; exact absurd hv h3
      · omega
    · rw [oe_n hv]; exact hv
theorem plc_ne {m : Int} {d : Int → Int} {rk : Int} (hm : 0 ≤ m ∧ m ≤ 10) (hr : 0 ≤ rk ∧ rk < tl m d 0) {t : Int} (ht : 0 ≤ t ∧ t < m) : plc m (fdO m d rk) t ≠ -1 := by
  have h := fdS_ok hm hr m.toNat (by omega)
  rw [show ((m.toNat : Nat) : Int) = m by omega] at h
  obtain ⟨h1, h2, h3, h4⟩ := h
  obtain ⟨j, j0, j1, j2⟩ := h4 t ht.1 ht.2 (cnt_full hm h1 h2 ht)
  exact rs_ne _ 0 j rfl j0 j1 (by rw [if_pos j2]; omega)
theorem rs_congr {n : Int} {f g : Int → Int} : ∀ (k : Nat) (v : Int), (n - v).toNat = k → 0 ≤ v → (∀ c, 0 ≤ c → c < n → f c = g c) → rs n f v = rs n g v := by
  intro k
  induction k with
  | zero => intro v hk _ _; rw [rs_e (by omega), rs_e (by omega)]
  | succ k ih => intro v hk h0 h; rw [rs_s (show v < n by omega) f, rs_s (show v < n by omega) g, h v h0 (by omega), ih (v + 1) (by omega) (by omega) h]
theorem plc_congr {m : Int} {x y : Int → Int} (h : ∀ k, 0 ≤ k → k < m → x k = y k) (t : Int) : plc m x t = plc m y t := rs_congr _ 0 rfl (by omega) (fun c h0 h1 => by rw [h c h0 h1])
theorem plc_in {m : Int} {x : Int → Int} {t : Int} (h : plc m x t ≠ -1) : 0 ≤ plc m x t ∧ plc m x t < m := by
  have := rs_in (n := m) (P := fun k => decide (x k = t)) (v := 0) (by omega)
  simp only [decide_eq_true_eq] at this
  rcases this with h1 | ⟨-, h1, h2⟩
  · exact absurd h1 h
  · exact ⟨h1, h2⟩
