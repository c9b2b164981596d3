/-! ===== more of the model's words ===== -/
theorem pow_b {m : Int} (h : 0 ≤ m ∧ m ≤ 10) : (0 ≤ m * m ∧ m * m ≤ 100) ∧ (0 ≤ m * m * m ∧ m * m * m ≤ 1000) ∧ (0 ≤ m * m * m * m ∧ m * m * m * m ≤ 10000) := by
  have : m = 0 ∨ m = 1 ∨ m = 2 ∨ m = 3 ∨ m = 4 ∨ m = 5 ∨ m = 6 ∨ m = 7 ∨ m = 8 ∨ m = 9 ∨ m = 10 := by omega
  rcases this with rfl | rfl | rfl | rfl | rfl | rfl | rfl | rfl | rfl | rfl | rfl <;> decide
theorem pow_p {m : Int} (h : 1 ≤ m ∧ m ≤ 10) : 1 ≤ m * m ∧ 1 ≤ m * m * m := by
  have : m = 1 ∨ m = 2 ∨ m = 3 ∨ m = 4 ∨ m = 5 ∨ m = 6 ∨ m = 7 ∨ m = 8 ∨ m = 9 ∨ m = 10 := by omega
  rcases this with rfl | rfl | rfl | rfl | rfl | rfl | rfl | rfl | rfl | rfl <;> decide
theorem quad_b {k m : Int} (h0 : 0 ≤ k) (hm : 1 ≤ m ∧ m ≤ 10) (h : k < m * m * m * m) : (0 ≤ k / (m * m * m) ∧ k / (m * m * m) < m) ∧ (0 ≤ k / (m * m) % m ∧ k / (m * m) % m < m) ∧ (0 ≤ k / m % m ∧ k / m % m < m) ∧ (0 ≤ k % m ∧ k % m < m) ∧ 0 ≤ k / (m * m) ∧ 0 ≤ k / m := by
  have hp := pow_p hm
  refine ⟨⟨Int.ediv_nonneg h0 (by omega), ?_⟩, ⟨Int.emod_nonneg _ (by omega), Int.emod_lt_of_pos _ (by omega)⟩, ⟨Int.emod_nonneg _ (by omega), Int.emod_lt_of_pos _ (by omega)⟩, ⟨Int.emod_nonneg _ (by omega), Int.emod_lt_of_pos _ (by omega)⟩, Int.ediv_nonneg h0 (by omega), Int.ediv_nonneg h0 (by omega)⟩
  apply Int.ediv_lt_of_lt_mul (by omega)
  rw [Int.mul_comm m (m * m * m)]
  exact h
def bent4 (d : Int → Int) (a b c e : Int) : Bool := (rel d a c && rel d b c && rel d b e) && apr d a b && apr d a e && apr d c e
def bentV (d : Int → Int) (a b c e : Int) : Int := if bent4 d a b c e then 1000 * a + 100 * b + 10 * c + e else -1
def bentM (m : Int) (d : Int → Int) : Int := rs (m * m * m * m) (fun k => bentV d (k / (m * m * m)) (k / (m * m) % m) (k / m % m) (k % m)) 0
def lev (m : Int) (d : Int → Int) (c : Int) : Int := 10 * cnt (d c) + sumZ m (fun e => B (rel d c e))
def ofLev (m : Int) (d : Int → Int) (l : Int) : Int := sumZ m (fun c => B (decide (lev m d c = l)))
def prs (m : Int) (d : Int → Int) : Int := sumZ m (fun a => cnt (d a))
def nxs (m : Int) (d : Int → Int) : Int := sumZ m (fun a => sumZ m (fun b => B (nxt m d a b)))
theorem sumN_b {f : Int → Int} {L : Int} : ∀ k : Nat, (∀ c : Int, 0 ≤ c → c < k → 0 ≤ f c ∧ f c ≤ L) → 0 ≤ sumN f k ∧ sumN f k ≤ k * L := by
  intro k
  induction k with
  | zero => intro _; exact ⟨Int.le_refl 0, by simp [sumN]⟩
  | succ k ih =>
    intro h
    have h1 := ih (fun c h0 h1 => h c h0 (by omega))
    have h2 := h k (by omega) (by omega)
    show 0 ≤ sumN f k + f k ∧ sumN f k + f k ≤ ((k + 1 : Nat) : Int) * L
    rw [show ((k + 1 : Nat) : Int) = (k : Int) + 1 by omega, Int.add_mul, Int.one_mul]
    omega
theorem sumZ_b {f : Int → Int} {L n : Int} (hn : 0 ≤ n) (h : ∀ c : Int, 0 ≤ c → c < n → 0 ≤ f c ∧ f c ≤ L) : 0 ≤ sumZ n f ∧ sumZ n f ≤ n * L := by
  have := sumN_b (f := f) (L := L) n.toNat (fun c h0 h1 => h c h0 (by omega))
  unfold sumZ
  rw [show ((n.toNat : Nat) : Int) = n by omega] at this
  exact this
/-- c may come behind the set s (a, b: a must be ahead of b, if they differ) -/
def may (d : Int → Int) (a b s c : Int) : Bool := !bt s c && sub (d c) s && (decide (a = b) || decide (c ≠ b) || bt s a)
def mdl (x k : Int) : Int := (x.tmod k + k).tmod k
/-- which thing is the i-th of a set, from a on -/
def pickN (s : Int) : Nat → Int → Int → Int
  | 0, _, a => a
  | k + 1, l, a => if decide (0 < l) || !bt s a then pickN s k (l - B (bt s a)) (a + 1) else a
