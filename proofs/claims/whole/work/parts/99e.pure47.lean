/-! ===== bent places: the class and the model alike ===== -/
theorem oe_a (x y z : Int) : oe (oe x y) z = oe x (oe y z) := by
  unfold oe
  by_cases h : x = -1
  · simp [h]
  · simp [h]
theorem dm_d {a m e : Int} (he : 0 ≤ e ∧ e < m) : (a * m + e) / m = a := by
  rw [Int.add_comm, Int.add_mul_ediv_right e a (by omega), Int.ediv_eq_zero_of_lt he.1 he.2, Int.zero_add]
theorem dm_m {a m e : Int} (he : 0 ≤ e ∧ e < m) : (a * m + e) % m = e := by
  rw [Int.add_comm, Int.add_mul_emod_self_right, Int.emod_eq_of_lt he.1 he.2]
theorem dm_lt {a n m e : Int} (ha : a < n) (he : 0 ≤ e ∧ e < m) : a * m + e < n * m := by
  have h1 : (a + 1) * m ≤ n * m := Int.mul_le_mul_of_nonneg_right (by omega) (by omega)
  have h2 : (a + 1) * m = a * m + m := by rw [Int.add_mul, Int.one_mul]
  omega
theorem rs_flat {n m : Int} (hm : 0 < m) (f : Int → Int → Int) : ∀ (k : Nat) (a : Int), (n - a).toNat = k → 0 ≤ a → rs (n * m) (fun k => f (k / m) (k % m)) (a * m) = rs n (fun a => rs m (f a) 0) a := by
  intro k
  induction k with
  | zero =>
    intro a hk h0
    rw [rs_e (n := n) (by omega), rs_e (Int.mul_le_mul_of_nonneg_right (by omega) (by omega))]
  | succ k ih =>
    intro a hk h0
    have hin : ∀ (j : Nat) (e : Int), (m - e).toNat = j → 0 ≤ e → e ≤ m → rs (n * m) (fun k => f (k / m) (k % m)) (a * m + e) = oe (rs m (f a) e) (rs (n * m) (fun k => f (k / m) (k % m)) ((a + 1) * m)) := by
      intro j
      induction j with
      | zero =>
        intro e hj e0 e1
        have : e = m := by omega
        rw [rs_e (n := m) (by omega), oe_m, this, Int.add_mul, Int.one_mul]
      | succ j ihj =>
        intro e hj e0 e1
        rw [rs_s (n := n * m) (v := a * m + e) (dm_lt (by omega) ⟨e0, by omega⟩), rs_s (n := m) (v := e) (by omega), oe_a, Int.add_assoc (a * m) e 1, ihj (e + 1) (by omega) (by omega) (by omega)]
        show oe (f ((a * m + e) / m) ((a * m + e) % m)) _ = _
        rw [dm_d ⟨e0, by omega⟩, dm_m ⟨e0, by omega⟩]
    have h := hin m.toNat 0 (by omega) (by omega) (by omega)
    rw [Int.add_zero] at h
    rw [h, ih (a + 1) (by omega) (by omega), rs_s (n := n) (v := a) (by omega)]
theorem rs_flat0 {n m : Int} (hm : 0 < m) (f : Int → Int → Int) : rs (n * m) (fun k => f (k / m) (k % m)) 0 = rs n (fun a => rs m (f a) 0) 0 := by
  have h := rs_flat (n := n) hm f n.toNat 0 (by omega) (by omega)
  rw [Int.zero_mul] at h
  exact h
theorem rs_map {n K : Int} {f : Int → Int} (hK : 0 ≤ K) : ∀ (k : Nat) (v : Int), (n - v).toNat = k → 0 ≤ v → (∀ c, 0 ≤ c → c < n → -1 ≤ f c) → (if rs n f v = -1 then -1 else K + rs n f v) = rs n (fun c => if f c = -1 then -1 else K + f c) v := by
  intro k
  induction k with
  | zero => intro v hk h0 _; rw [rs_e (by omega), rs_e (by omega), if_pos rfl]
  | succ k ih =>
    intro v hk h0 h
    have hi := ih (v + 1) (by omega) (by omega) h
    rw [rs_s (n := n) (v := v) (by omega) f, rs_s (n := n) (v := v) (by omega) (fun c => if f c = -1 then -1 else K + f c), ← hi]
    have hv := h v h0 (by omega)
    unfold oe
    by_cases hz : f v = -1
    · simp only [hz, ne_eq, not_true_eq_false, if_false, if_true]
    · simp only [hz, ne_eq, not_false_eq_true, if_true, if_false]
      rw [if_neg (by omega)]
theorem bent_eq {m : Int} {d : Int → Int} (hm : 0 ≤ m ∧ m ≤ 10) : bentC m d = bentM m d := by
  rcases Int.lt_or_le 0 m with hp | hp
  · have h1 : bentM m d = rs (m * m * m) (fun k => rs m (fun e => bentV d (k / (m * m)) (k / m % m) (k % m) e) 0) 0 := by
      unfold bentM
      rw [← rs_flat0 hp (fun k e => bentV d (k / (m * m)) (k / m % m) (k % m) e)]
      refine rs_congr _ 0 rfl (by omega) (fun k k0 _ => ?_)
      rw [show k / (m * m * m) = k / m / (m * m) by rw [Int.ediv_ediv_of_nonneg (by omega)]; congr 1; rw [Int.mul_comm m (m * m)], show k / (m * m) = k / m / m by rw [Int.ediv_ediv_of_nonneg (by omega)]]
    have h2 : bentM m d = rs (m * m) (fun k => rs m (fun c => rs m (fun e => bentV d (k / m) (k % m) c e) 0) 0) 0 := by
      rw [h1, ← rs_flat0 hp (fun k c => rs m (fun e => bentV d (k / m) (k % m) c e) 0)]
      refine rs_congr _ 0 rfl (by omega) (fun k k0 _ => ?_)
      rw [show k / (m * m) = k / m / m by rw [Int.ediv_ediv_of_nonneg (by omega)]]
    rw [h2, rs_flat0 hp (fun a b => rs m (fun c => rs m (fun e => bentV d a b c e) 0) 0)]
    unfold bentC
    refine rs_congr _ 0 rfl (by omega) (fun a a0 a1 => rs_congr _ 0 rfl (by omega) (fun b b0 b1 => ?_))
    unfold fbV
    by_cases hab : apr d a b = true
    · rw [if_pos hab]
      have hfb := fbe_b (d := d) hm a b
      unfold fbe
      rw [rs_map (K := 1000 * a + 100 * b) (by omega) m.toNat 0 (by omega) (by omega) (fun c c0 c1 => ?_)]
      · refine rs_congr _ 0 rfl (by omega) (fun c c0 c1 => ?_)
        rw [rs_map (K := 1000 * a + 100 * b) (by omega) m.toNat 0 (by omega) (by omega) (fun e e0 e1 => by split <;> omega)]
        refine rs_congr _ 0 rfl (by omega) (fun e e0 e1 => ?_)
        unfold bentV
        have hc : ((rel d a c && rel d b c && (rel d b e && !rel d a e)) && apr d c e && apr d a e) = bent4 d a b c e := by
          unfold bent4; rw [hab]
          cases hae : rel d a e
          · cases rel d a c <;> cases rel d b c <;> cases rel d b e <;> cases apr d c e <;> cases apr d a e <;> rfl
          · rw [show apr d a e = false by unfold apr; rw [hae]; simp]
            cases rel d a c <;> cases rel d b c <;> cases rel d b e <;> cases apr d c e <;> rfl
        rw [hc]
        by_cases hb : bent4 d a b c e = true
        · rw [if_pos hb, if_neg (by omega), if_pos hb]; omega
        · rw [if_neg hb, if_pos rfl, if_neg hb]
      · have key : ∀ (j : Nat) (v : Int), (m - v).toNat = j → 0 ≤ v → -1 ≤ rs m (fun e => if (rel d a c && rel d b c && (rel d b e && !rel d a e)) && apr d c e && apr d a e then 10 * c + e else -1) v := by
          intro j
          induction j with
          | zero => intro v hv _; rw [rs_e (by omega)]; omega
          | succ j ih =>
            intro v hv v0
            have := ih (v + 1) (by omega) (by omega)
            rw [rs_s (by omega)]; unfold oe; split
            · split <;> omega
            · exact this
        exact key m.toNat 0 (by omega) (by omega)
    · rw [if_neg hab, if_pos rfl]
      symm
      have hz : ∀ c e, bentV d a b c e = -1 := fun c e => by
        unfold bentV; rw [if_neg]; unfold bent4
        intro q; apply hab; revert q; cases apr d a b <;> simp
      have hn : ∀ (j : Nat) (v : Int) (f : Int → Int), (m - v).toNat = j → (∀ c, f c = -1) → rs m f v = -1 := by
        intro j
        induction j with
        | zero => intro v f hv _; exact rs_e (by omega) _
        | succ j ih => intro v f hv hf; rw [rs_s (by omega), hf v, oe_m, ih (v + 1) f (by omega) hf]
      exact hn m.toNat 0 _ (by omega) (fun c => hn m.toNat 0 _ (by omega) (fun e => hz c e))
  · have : m = 0 := by omega
    subst this
    rfl
