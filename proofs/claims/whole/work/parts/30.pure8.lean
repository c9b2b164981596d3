/-! ===== rows out by their rank ===== -/
/-- rows out that begin with the set s -/
def tl (m : Int) (d : Int → Int) (s : Int) : Int := lyF m d 0 0 s
def can (d : Int → Int) (s c : Int) : Bool := may d 0 0 s c
/-- which thing comes behind s, and which rank is left -/
def fdN (m : Int) (d : Int → Int) (s : Int) : Nat → Int → Int → Int × Int
  | 0, r, c => (c, r)
  | f + 1, r, c => if can d s c && decide (r < tl m d (plus s c)) then (c, r) else fdN m d s f (r - (if can d s c then tl m d (plus s c) else 0)) (c + 1)
def fd (m : Int) (d : Int → Int) (s r : Int) : Int × Int := fdN m d s m.toNat r 0
def fdS (m : Int) (d : Int → Int) (rk k : Int) : Int × Int := foldG k (fun q _ => (plus q.1 (fd m d q.1 q.2).1, (fd m d q.1 q.2).2)) (0, rk)
def fdO (m : Int) (d : Int → Int) (rk k : Int) : Int := (fd m d (fdS m d rk k).1 (fdS m d rk k).2).1
theorem fdS_s {m : Int} {d : Int → Int} {rk k : Int} (hk : 0 ≤ k) : fdS m d rk (k + 1) = (plus (fdS m d rk k).1 (fdO m d rk k), (fd m d (fdS m d rk k).1 (fdS m d rk k).2).2) := foldG_s hk _ _
theorem fdN_s {m : Int} {d : Int → Int} {s r c : Int} (hc : c < m) : fdN m d s (m - c).toNat r c = if can d s c && decide (r < tl m d (plus s c)) then (c, r) else fdN m d s (m - (c + 1)).toNat (r - (if can d s c then tl m d (plus s c) else 0)) (c + 1) := by
  rw [show (m - c).toNat = (m - (c + 1)).toNat + 1 by omega]
  rfl
theorem all_of_cnt {m s : Int} (hm : 0 ≤ m ∧ m ≤ 10) (hs : 0 ≤ s ∧ s < p2 m) (h : cnt s < m) : s ≠ p2 m - 1 := by
  intro q
  rw [q, cnt_all hm] at h
  omega
theorem zcmp_lt {x y : Int} : zcmp x y < 0 ↔ x < y := by
  unfold zcmp
  split
  · omega
  · split <;> omega
theorem zcmp_gt {x y : Int} : 0 < zcmp x y ↔ y < x := by
  unfold zcmp
  split
  · omega
  · split <;> omega
def fairV (m : Int) (d : Int → Int) (a b : Int) : Int := if apr d a b && decide (3 * tl m d 0 ≤ 11 * lyF m d a b 0) && decide (11 * lyF m d a b 0 ≤ 8 * tl m d 0) then 10 * a + b else -1
def fairF (m : Int) (d : Int → Int) : Int := rs m (fun a => rs m (fun b => fairV m d a b) (a + 1)) 0
