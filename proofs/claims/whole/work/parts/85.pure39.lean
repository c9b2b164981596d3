/-! ===== pairs of a sheet, what the host refuses ===== -/
def whW (M : MM) (s so q : Int) : Int := if M 42 s = -1 then 10 else if M 42 s ≠ so then 11 else if M 43 s < 2 * q then 12 else 0
def prC (M : MM) (o s so q : Int) : Bool := isOr M o && (decide (0 ≤ s) && decide (s ≤ 3)) && (decide (0 ≤ so) && decide (so ≤ 2)) && (decide (0 ≤ q) && decide (q ≤ 10))
def prZ (M : MM) (o s q : Int) : Int × (Int → Int) := prP (M 38 o) (M (28 + 2 * s + 1)) q.toNat 0 (dM M o)
def prQ (n : Nat) (K : KK) (M : MM) (o s so q : Int) : QQ := fun rr n' K' M' => n' = n ∧ K' = K ∧
  ((prC M o s so q = false ∧ rr = some (0, -1) ∧ M' = st2 M 0 11 1) ∨
  (prC M o s so q = true ∧ M 37 o ≠ 0 ∧ rr = some (0, -1) ∧ M' = st2 M 0 11 3) ∨
  (prC M o s so q = true ∧ M 37 o = 0 ∧ q = 0 ∧ rr = some (0, 0) ∧ M' = st2 M 0 11 0) ∨
  (prC M o s so q = true ∧ M 37 o = 0 ∧ 0 < q ∧ whW M s so q ≠ 0 ∧ rr = some (0, -1) ∧ M' = st2 M 0 11 (whW M s so q)) ∨
  (prC M o s so q = true ∧ M 37 o = 0 ∧ 0 < q ∧ whW M s so q = 0 ∧ rr = some (0, (prZ M o s q).1) ∧ ∃ M1, (∀ x, x < M 1 o ∨ M 1 o + 2 < x → M1 x = M x) ∧ OB K M1 (M 1 o) 4 o (M 38 o) (prZ M o s q).2 ∧ M' = st2 M1 0 11 0))
