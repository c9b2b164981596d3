/-! ===== counting loops as sums and alls ===== -/
def allN (P : Int → Bool) : Nat → Bool
  | 0 => true
  | k + 1 => allN P k && P (k : Int)
def sumN (f : Int → Int) : Nat → Int
  | 0 => 0
  | k + 1 => sumN f k + f (k : Int)
def allB (n : Int) (P : Int → Bool) : Bool := allN P n.toNat
def sumZ (n : Int) (f : Int → Int) : Int := sumN f n.toNat
theorem allB_0 (P : Int → Bool) : allB 0 P = true := rfl
theorem sumZ_0 (f : Int → Int) : sumZ 0 f = 0 := rfl
theorem allB_s {c : Int} (h : 0 ≤ c) (P : Int → Bool) : allB (c + 1) P = (allB c P && P c) := by
  unfold allB
  rw [show (c + 1).toNat = c.toNat + 1 by omega]
  show (allN P c.toNat && P ((c.toNat : Nat) : Int)) = _
  rw [Int.toNat_of_nonneg h]
theorem sumZ_s {c : Int} (h : 0 ≤ c) (f : Int → Int) : sumZ (c + 1) f = sumZ c f + f c := by
  unfold sumZ
  rw [show (c + 1).toNat = c.toNat + 1 by omega]
  show sumN f c.toNat + f ((c.toNat : Nat) : Int) = _
  rw [Int.toNat_of_nonneg h]
theorem allN_iff (P : Int → Bool) : ∀ k : Nat, allN P k = true ↔ ∀ c : Int, 0 ≤ c → c < k → P c = true := by
  intro k
  induction k with
  | zero => exact ⟨fun _ c h0 h1 => by omega, fun _ => rfl⟩
  | succ k ih =>
    show (allN P k && P (k : Int)) = true ↔ _
    rw [Bool.and_eq_true, ih]
    constructor
    · intro h c h0 h1
      by_cases hc : c = k
      · rw [hc]; exact h.2
      · exact h.1 c h0 (by omega)
    · intro h
      exact ⟨fun c h0 h1 => h c h0 (by omega), h k (by omega) (by omega)⟩
theorem allB_iff {n : Int} {P : Int → Bool} : allB n P = true ↔ ∀ c : Int, 0 ≤ c → c < n → P c = true := by
  unfold allB
  rw [allN_iff]
  constructor
  · intro h c h0 h1; exact h c h0 (by omega)
  · intro h c h0 h1; exact h c h0 (by omega)
theorem allB_congr {n : Int} {P Q : Int → Bool} (h : ∀ c, 0 ≤ c → c < n → P c = Q c) : allB n P = allB n Q := by
  rw [Bool.eq_iff_iff, allB_iff, allB_iff]
  constructor
  · intro g c h0 h1; rw [← h c h0 h1]; exact g c h0 h1
  · intro g c h0 h1; rw [h c h0 h1]; exact g c h0 h1
theorem sumN_b01 (P : Int → Bool) : ∀ k : Nat, 0 ≤ sumN (fun a => B (P a)) k ∧ sumN (fun a => B (P a)) k ≤ k := by
  intro k
  induction k with
  | zero => exact ⟨Int.le_refl 0, Int.le_refl 0⟩
  | succ k ih =>
    have := B_01 (P k)
    show 0 ≤ sumN (fun a => B (P a)) k + B (P k) ∧ sumN (fun a => B (P a)) k + B (P k) ≤ _
    omega
theorem sumZ_b01 {n : Int} (h : 0 ≤ n) (P : Int → Bool) : 0 ≤ sumZ n (fun a => B (P a)) ∧ sumZ n (fun a => B (P a)) ≤ n := by
  have := sumN_b01 P n.toNat
  unfold sumZ
  omega
/-! ===== the model's state ===== -/
def p2 (m : Int) : Int := zshl 1 m
/-- sizes, sets, numbers within their bounds -/
def MO (K : KK) (M : MM) : Prop := WF K M ∧ (0 ≤ M 36 0 ∧ M 36 0 ≤ 8) ∧ (∀ o, 0 ≤ o → o < 8 → 0 ≤ M 38 o ∧ M 38 o ≤ 10) ∧ (∀ i, 0 ≤ i → i < 80 → 0 ≤ M 39 i ∧ M 39 i < 1024) ∧ ∀ o b, 0 ≤ o → o < 8 → 0 ≤ b → b < 10 → M 39 (10 * o + b) < p2 (M 38 o)
theorem MO.sz {K : KK} {M : MM} (h : MO K M) {o : Int} (ho : 0 ≤ o ∧ o < 8) : 0 ≤ M 38 o ∧ M 38 o ≤ 10 := h.2.2.1 o ho.1 ho.2
theorem MO.set {K : KK} {M : MM} (h : MO K M) {i : Int} (hi : 0 ≤ i ∧ i < 80) : 0 ≤ M 39 i ∧ M 39 i < 1024 := h.2.2.2.1 i hi.1 hi.2
theorem MO.nn {K : KK} {M : MM} (h : MO K M) {i : Int} (hi : 0 ≤ i ∧ i < 80) : nn (M 39 i) := by have := h.set hi; exact ⟨by omega, by omega⟩
/-- the sets of order o: what is BELOW each thing -/
def dM (M : MM) (o : Int) : Int → Int := fun b => M 39 (10 * o + b)
/-- a is BELOW b -/
def rel (d : Int → Int) (a b : Int) : Bool := bt (d b) a
def apr (d : Int → Int) (a b : Int) : Bool := decide (a ≠ b) && !rel d a b && !rel d b a
def nxt (n : Int) (d : Int → Int) (a b : Int) : Bool := rel d a b && allB n (fun c => !(rel d a c && rel d c b))
/-- x has nothing that y has not -/
def sub (x y : Int) : Bool := decide (zand x (zxor y (-1)) = 0)
def dis (x y : Int) : Bool := decide (zand x y = 0)
def low (n : Int) (d : Int → Int) (s : Int) : Bool := allB n (fun a => !bt s a || sub (d a) s)
def isOr (M : MM) (o : Int) : Bool := decide (0 ≤ o) && decide (o < M 36 0)
def isTh (M : MM) (o a : Int) : Bool := isOr M o && (decide (0 ≤ a) && decide (a < M 38 o))
/-- things' number and sets within bounds -/
def OK (n : Int) (d : Int → Int) : Prop := (0 ≤ n ∧ n ≤ 10) ∧ (∀ b, 0 ≤ b → b < 10 → 0 ≤ d b ∧ d b < 1024) ∧ ∀ b, 0 ≤ b → b < 10 → d b < p2 n
theorem MO.ok {K : KK} {M : MM} (h : MO K M) {o : Int} (ho : 0 ≤ o ∧ o < 8) : OK (M 38 o) (dM M o) := ⟨h.sz ho, fun b h0 h1 => h.set (by omega), fun b h0 h1 => h.2.2.2.2 o b ho.1 ho.2 h0 h1⟩
theorem OK.nn {n : Int} {d : Int → Int} (h : OK n d) {b : Int} (hb : 0 ≤ b ∧ b < 10) : nn (d b) := by have := h.2.1 b hb.1 hb.2; exact ⟨by omega, by omega⟩
/-- of an ORDER of the model: its number of things, its sets -/
def AT (K : KK) (M : MM) (o m : Int) (d : Int → Int) : Prop := MO K M ∧ (0 ≤ o ∧ o < 8) ∧ M 38 o = m ∧ dM M o = d
theorem AT.ok {K : KK} {M : MM} {o m : Int} {d : Int → Int} (h : AT K M o m d) : OK m d := by
  obtain ⟨h1, h2, rfl, rfl⟩ := h
  exact h1.ok h2
theorem MO.off {K : KK} {M M1 : MM} (h : MO K M) (hs : sc M M1) : MO K M1 := by
  have e36 : M1 36 = M 36 := hs 36 (by omega)
  have e38 : M1 38 = M 38 := hs 38 (by omega)
  have e39 : M1 39 = M 39 := hs 39 (by omega)
  refine ⟨h.1.of (fun q hq => ?_), by rw [e36]; exact h.2.1, by rw [e38]; exact h.2.2.1, by rw [e39]; exact h.2.2.2.1, by rw [e38, e39]; exact h.2.2.2.2⟩
  have : ∀ q ∈ mfL, ¬ ((46 ≤ q.1 ∧ q.1 ≤ 51) ∨ q.1 = 54) := by decide
  rw [hs q.1 (this q hq)]
theorem AT.off {K : KK} {M M1 : MM} {o m : Int} {d : Int → Int} (h : AT K M o m d) (hs : sc M M1) : AT K M1 o m d := by
  have e38 : M1 38 = M 38 := hs 38 (by omega)
  have e39 : M1 39 = M 39 := hs 39 (by omega)
  exact ⟨h.1.off hs, h.2.1, by rw [e38]; exact h.2.2.1, by unfold dM; rw [e39]; exact h.2.2.2⟩
theorem AT.wf {K : KK} {M : MM} {o m : Int} {d : Int → Int} (h : AT K M o m d) : WF K M := h.1.1
theorem AT.sz {K : KK} {M : MM} {o m : Int} {d : Int → Int} (h : AT K M o m d) : M 38 o = m := h.2.2.1
theorem AT.at {K : KK} {M : MM} {o m : Int} {d : Int → Int} (h : AT K M o m d) (b : Int) : M 39 (10 * o + b) = d b := by rw [← h.2.2.2]; rfl
theorem isOr_of {K : KK} {M : MM} (h : MO K M) {o : Int} (c : isOr M o = true) : 0 ≤ o ∧ o < 8 := by
  have := h.2.1
  unfold isOr at c
  simp at c
  omega
theorem isTh_of {K : KK} {M : MM} (h : MO K M) {o a : Int} (c : isTh M o a = true) : (0 ≤ o ∧ o < 8) ∧ (0 ≤ a ∧ a < 10) ∧ a < M 38 o ∧ isOr M o = true := by
  unfold isTh at c
  simp only [Bool.and_eq_true, decide_eq_true_eq] at c
  have h1 := isOr_of h c.1
  have h2 := h.sz h1
  exact ⟨h1, by omega, by omega, c.1⟩
