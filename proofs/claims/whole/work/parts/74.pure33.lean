/-! ===== marks in double loops ===== -/
def dbX (q1 q2 : Int) (P : Int → Int → Bool) (g h : Int → Int → Int) (x y : Int) : Bool := exB q1 (fun a => exB q2 (fun b => P a b && (decide (x = g a b) && decide (y = h a b))))
def dbR (w v : Int) (P : Int → Int → Bool) (g h : Int → Int → Int) (x y : Int) : Bool := exB w (fun b => P v b && (decide (x = g v b) && decide (y = h v b)))
theorem dbX_s {v q2 : Int} (hv : 0 ≤ v) (P : Int → Int → Bool) (g h : Int → Int → Int) (x y : Int) : dbX (v + 1) q2 P g h x y = (dbX v q2 P g h x y || dbR q2 v P g h x y) := exB_s hv _
theorem dbR_s {w v : Int} (hw : 0 ≤ w) (P : Int → Int → Bool) (g h : Int → Int → Int) (x y : Int) : dbR (w + 1) v P g h x y = (dbR w v P g h x y || (P v w && (decide (x = g v w) && decide (y = h v w)))) := exB_s hw _
theorem dbX_0 {q2 : Int} (P : Int → Int → Bool) (g h : Int → Int → Int) (x y : Int) : dbX 0 q2 P g h x y = false := rfl
theorem dbR_0 {v : Int} (P : Int → Int → Bool) (g h : Int → Int → Int) (x y : Int) : dbR 0 v P g h x y = false := rfl
theorem dbR_lo {w v : Int} {P : Int → Int → Bool} {g h : Int → Int → Int} (hP : ∀ b, 0 ≤ b → b < w → P v b = false) (x y : Int) : dbR w v P g h x y = false := by
  unfold dbR
  cases hq : exB w (fun b => P v b && (decide (x = g v b) && decide (y = h v b))) with
  | false => rfl
  | true =>
    obtain ⟨c, c0, c1, c2⟩ := exB_iff.mp hq
    rw [hP c c0 c1] at c2
    cases c2
theorem db_mk {m : Int} {D : Int → Int} (h : OK m D) {v w : Int} (hw : 0 ≤ w) {P : Int → Int → Bool} {g k : Int → Int → Int} {A : Int → Int → Bool} (hP : P v w = true) (hg : 0 ≤ g v w ∧ g v w < m) (hk : 0 ≤ k v w ∧ k v w < m) {x y : Int} (hx : 0 ≤ x) (hD : rel D x y = (A x y || dbR w v P g k x y)) : rel (mrk D (g v w) (k v w)) x y = (A x y || dbR (w + 1) v P g k x y) := by
  rw [rel_mrk h hg hk hx, hD, dbR_s hw, hP, Bool.true_and, Bool.or_assoc]
theorem db_no {D : Int → Int} {v w : Int} (hw : 0 ≤ w) {P : Int → Int → Bool} {g k : Int → Int → Int} {A : Int → Int → Bool} (hP : P v w = false) {x y : Int} (hD : rel D x y = (A x y || dbR w v P g k x y)) : rel D x y = (A x y || dbR (w + 1) v P g k x y) := by
  rw [hD, dbR_s hw, hP, Bool.false_and, Bool.or_false]
theorem db_row {D : Int → Int} {v q2 : Int} (hv : 0 ≤ v) {P : Int → Int → Bool} {g k : Int → Int → Int} {A : Int → Int → Bool} {x y : Int} (hD : rel D x y = ((A x y || dbX v q2 P g k x y) || dbR q2 v P g k x y)) : rel D x y = (A x y || dbX (v + 1) q2 P g k x y) := by
  rw [hD, dbX_s hv, Bool.or_assoc]
def cpX (sh m2 : Int) (e : Int → Int) (x y : Int) : Bool := decide (sh ≤ x) && decide (x < sh + m2) && (decide (sh ≤ y) && decide (y < sh + m2)) && rel e (x - sh) (y - sh)
theorem idx_lt {x y a b : Int} (hx : 0 ≤ x ∧ x < a) (hy : 0 ≤ y ∧ y < b) : 0 ≤ x * b + y ∧ x * b + y < a * b := by
  have h1 : 0 ≤ x * b := Int.mul_nonneg hx.1 (by omega)
  have h2 : (x + 1) * b ≤ a * b := Int.mul_le_mul_of_nonneg_right (by omega) (by omega)
  rw [Int.add_mul, Int.one_mul] at h2
  omega
