/-! ===== searches, folds ===== -/
def oe (x y : Int) : Int := if x = -1 then y else x
def restN (f : Int → Int) : Nat → Int → Int
  | 0, _ => -1
  | k + 1, v => oe (f v) (restN f k (v + 1))
/-- the first f v that is not -1, v from v0 on below n; -1: none -/
def rs (n : Int) (f : Int → Int) (v : Int) : Int := restN f (n - v).toNat v
theorem rs_s {n v : Int} (h : v < n) (f : Int → Int) : rs n f v = oe (f v) (rs n f (v + 1)) := by
  unfold rs
  rw [show (n - v).toNat = (n - (v + 1)).toNat + 1 by omega]
  rfl
theorem rs_e {n v : Int} (h : n ≤ v) (f : Int → Int) : rs n f v = -1 := by
  unfold rs
  rw [show (n - v).toNat = 0 by omega]
  rfl
theorem oe_m (y : Int) : oe (-1) y = y := if_pos rfl
theorem oe_n {x : Int} (h : x ≠ -1) (y : Int) : oe x y = x := if_neg h
theorem oe_as (x y z : Int) : oe (oe x y) z = oe x (oe y z) := by unfold oe; split <;> simp_all
theorem oe_r (x : Int) : oe x (-1) = x := by unfold oe; split <;> simp_all
def foldN (f : Int → Int → Int) (z : Int) : Nat → Int
  | 0 => z
  | k + 1 => f (foldN f z k) (k : Int)
def foldZ (n : Int) (f : Int → Int → Int) (z : Int) : Int := foldN f z n.toNat
theorem foldZ_0 (f : Int → Int → Int) (z : Int) : foldZ 0 f z = z := rfl
theorem foldZ_s {c : Int} (h : 0 ≤ c) (f : Int → Int → Int) (z : Int) : foldZ (c + 1) f z = f (foldZ c f z) c := by
  unfold foldZ
  rw [show (c + 1).toNat = c.toNat + 1 by omega]
  show f (foldN f z c.toNat) ((c.toNat : Nat) : Int) = _
  rw [Int.toNat_of_nonneg h]
theorem foldN_P {f : Int → Int → Int} {z : Int} (P : Int → Prop) (hz : P z) : ∀ k : Nat, (∀ x c : Int, P x → 0 ≤ c → c < k → P (f x c)) → P (foldN f z k) := by
  intro k
  induction k with
  | zero => intro _; exact hz
  | succ k ih => intro h; exact h _ _ (ih (fun x c hx h0 h1 => h x c hx h0 (by omega))) (by omega) (by omega)
theorem foldZ_P {f : Int → Int → Int} {z n : Int} (P : Int → Prop) (hz : P z) (h : ∀ x c : Int, P x → 0 ≤ c → c < n → P (f x c)) : P (foldZ n f z) :=
  foldN_P P hz _ (fun x c hx h0 h1 => h x c hx h0 (by omega))
def cnt (s : Int) : Int := sumZ 10 (fun a => B (bt s a))
theorem cnt_b (s : Int) : 0 ≤ cnt s ∧ cnt s ≤ 10 := sumZ_b01 (by omega) _
theorem p2_eq {m : Int} (h : 0 ≤ m ∧ m ≤ 10) : p2 m = ((2 ^ m.toNat : Nat) : Int) := zshl1 ⟨h.1, by omega⟩
theorem p2_b {m : Int} (h : 0 ≤ m ∧ m ≤ 10) : 1 ≤ p2 m ∧ p2 m ≤ 1024 := by
  rw [p2_eq h]
  have h1 : 2 ^ m.toNat ≤ 2 ^ 10 := Nat.pow_le_pow_right (by decide) (by omega)
  have h2 : 0 < 2 ^ m.toNat := Nat.two_pow_pos _
  omega
def anti (m : Int) (d : Int → Int) (s : Int) : Bool := allB m (fun a => !bt s a || dis (d a) s)
def ahd (s t : Int) : Bool := decide (zand (zand (zxor s t) (-(zxor s t))) s ≠ 0)
def wstep (m : Int) (d : Int → Int) (b s : Int) : Int := if anti m d s && (decide (0 < cnt s - cnt b) || (decide (cnt s - cnt b = 0) && ahd s b)) then s else b
def wide (m : Int) (d : Int → Int) : Int := foldZ (p2 m) (wstep m d) 0
theorem wide_b {m : Int} {d : Int → Int} (h : 0 ≤ m ∧ m ≤ 10) (c : Int) (hc : c ≤ p2 m) : 0 ≤ foldZ c (wstep m d) 0 ∧ foldZ c (wstep m d) 0 < 1024 := by
  have hp := p2_b h
  refine foldZ_P (fun x => 0 ≤ x ∧ x < 1024) (by omega) (fun x c hx h0 h1 => ?_)
  unfold wstep
  split
  · omega
  · exact hx
def lowN (m : Int) (d : Int → Int) : Int := sumZ (p2 m) (fun s => B (low m d s))
/-- the i-th s below n with P; -1: none -/
def nthN (P : Int → Bool) : Nat → Int → Int → Int
  | 0, _, _ => -1
  | k + 1, s, i => if i < 0 then -1 else if P s then (if i = 0 then s else nthN P k (s + 1) (i + -1)) else nthN P k (s + 1) i
def nth (n : Int) (P : Int → Bool) (s i : Int) : Int := nthN P (n - s).toNat s i
theorem nth_s {n s : Int} (h : s < n) (P : Int → Bool) (i : Int) : nth n P s i = if i < 0 then -1 else if P s then (if i = 0 then s else nth n P (s + 1) (i + -1)) else nth n P (s + 1) i := by
  unfold nth
  rw [show (n - s).toNat = (n - (s + 1)).toNat + 1 by omega]
  rfl
theorem nth_e {n s : Int} (h : n ≤ s) (P : Int → Bool) (i : Int) : nth n P s i = -1 := by
  unfold nth
  rw [show (n - s).toNat = 0 by omega]
  rfl
def lowI (m : Int) (d : Int → Int) (i : Int) : Int := nth (p2 m) (low m d) 0 i
/-- a chain within x -/
def chn (m : Int) (d : Int → Int) (x s : Int) : Bool := sub s x && allB m (fun c => allB m (fun e => decide (e ≤ c) || !(bt s c && bt s e && apr d c e)))
def lay (m : Int) (d : Int → Int) (a : Int) : Int := foldZ (p2 m) (fun b s => if chn m d (d a) s && decide (b < cnt s) then cnt s else b) 0
def hgt (m : Int) (d : Int → Int) : Int := foldZ m (fun b a => if b < lay m d a + 1 then lay m d a + 1 else b) 0
theorem lay_b {m : Int} {d : Int → Int} {a : Int} (c : Int) : 0 ≤ foldZ c (fun b s => if chn m d (d a) s && decide (b < cnt s) then cnt s else b) 0 ∧ foldZ c (fun b s => if chn m d (d a) s && decide (b < cnt s) then cnt s else b) 0 ≤ 10 := by
  refine foldZ_P (fun x => 0 ≤ x ∧ x ≤ 10) (by omega) (fun x c hx h0 h1 => ?_)
  have := cnt_b c
  split
  · omega
  · exact hx
theorem hgt_b {m : Int} {d : Int → Int} (c : Int) : 0 ≤ foldZ c (fun b a => if b < lay m d a + 1 then lay m d a + 1 else b) 0 ∧ foldZ c (fun b a => if b < lay m d a + 1 then lay m d a + 1 else b) 0 ≤ 11 := by
  refine foldZ_P (fun x => 0 ≤ x ∧ x ≤ 11) (by omega) (fun x c hx h0 h1 => ?_)
  have := lay_b (m := m) (d := d) (a := c) (p2 m)
  unfold lay
  split
  · omega
  · exact hx
theorem allB_low {c n : Int} {P : Int → Bool} (h : ∀ e, 0 ≤ e → e < n → P e = true) : allB n P = true := allB_iff.mpr h
/-- way 0: a is c or BELOW it; way 1: c is a or BELOW it -/
def onW (d : Int → Int) (w a c : Int) : Bool := decide (a = c) || (if w = 0 then rel d a c else rel d c a)
def isBd (m : Int) (d : Int → Int) (w a b c : Int) : Bool := (onW d w a c && onW d w b c) && allB m (fun e => !(decide (e ≠ c) && onW d w a e && onW d w b e) || onW d w c e)
def bnd (m : Int) (d : Int → Int) (w a b : Int) : Int := rs m (fun c => if isBd m d w a b c then c else -1) 0
def latt (m : Int) (d : Int → Int) : Bool := decide (0 < m) && allB m (fun a => allB m (fun b => decide (bnd m d 0 a b ≠ -1) && decide (bnd m d 1 a b ≠ -1)))
def une3 (m : Int) (d : Int → Int) (a b c : Int) : Int := if bnd m d 1 a (bnd m d 0 b c) = bnd m d 0 (bnd m d 1 a b) (bnd m d 1 a c) then -1 else 100 * a + 10 * b + c
def une (m : Int) (d : Int → Int) : Int := rs m (fun a => rs m (fun b => rs m (fun c => une3 m d a b c) 0) 0) 0
theorem rs_in {n : Int} {P : Int → Bool} {v : Int} (h0 : 0 ≤ v) : rs n (fun c => if P c then c else -1) v = -1 ∨ (P (rs n (fun c => if P c then c else -1) v) = true ∧ v ≤ rs n (fun c => if P c then c else -1) v ∧ rs n (fun c => if P c then c else -1) v < n) := by
  have key : ∀ (k : Nat) (v : Int), (n - v).toNat = k → 0 ≤ v → rs n (fun c => if P c then c else -1) v = -1 ∨ (P (rs n (fun c => if P c then c else -1) v) = true ∧ v ≤ rs n (fun c => if P c then c else -1) v ∧ rs n (fun c => if P c then c else -1) v < n) := by
    intro k
    induction k with
    | zero => intro v hv _; exact Or.inl (rs_e (by omega) _)
    | succ k ih =>
      intro v hv h0
      rw [rs_s (by omega)]
      by_cases hp : P v = true
      · rw [if_pos hp, oe_n (by omega)]; exact Or.inr ⟨hp, by omega, by omega⟩
      · rw [if_neg hp, oe_m]
        rcases ih (v + 1) (by omega) (by omega) with h | ⟨h1, h2, h3⟩
        · exact Or.inl h
        · exact Or.inr ⟨h1, by omega, h3⟩
  exact key _ v rfl h0
theorem bnd_in {m : Int} {d : Int → Int} {w a b : Int} (h : bnd m d w a b ≠ -1) : 0 ≤ bnd m d w a b ∧ bnd m d w a b < m := by
  rcases rs_in (n := m) (P := isBd m d w a b) (v := 0) (by omega) with h1 | ⟨-, h1, h2⟩
  · exact absurd h1 h
  · exact ⟨h1, h2⟩
theorem latt_bd {m : Int} {d : Int → Int} (h : latt m d = true) {a b : Int} (ha : 0 ≤ a ∧ a < m) (hb : 0 ≤ b ∧ b < m) {w : Int} (hw : w = 0 ∨ w = 1) : 0 ≤ bnd m d w a b ∧ bnd m d w a b < m := by
  unfold latt at h
  rw [Bool.and_eq_true, allB_iff] at h
  have h1 := h.2 a ha.1 ha.2
  rw [allB_iff] at h1
  have h2 := h1 b hb.1 hb.2
  simp only [Bool.and_eq_true, decide_eq_true_eq] at h2
  rcases hw with rfl | rfl
  · exact bnd_in h2.1
  · exact bnd_in h2.2
