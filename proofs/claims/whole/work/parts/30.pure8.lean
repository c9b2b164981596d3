/-! ===== rows out by their rank ===== -/
/-- rows out that begin with the set s -/
def tl (m : Int) (d : Int → Int) (s : Int) : Int := lyF m d 0 0 s
def can (d : Int → Int) (s c : Int) : Bool := may d 0 0 s c
/-- which thing comes behind s, and which rank is left -/
def fdN (m : Int) (d : Int → Int) (s : Int) : Nat → Int → Int → Int × Int
  | 0, r, c => (c, r)
  | f + 1, r, c => if can d s c && decide (r < tl m d (plus s c)) then (c, r) else fdN m d s f (r - (if can d s c then tl m d (plus s c) else 0)) (c + 1)
def fd (m : Int) (d : Int → Int) (s r : Int) : Int × Int := fdN m d s m.toNat r 0
def fdS (m : Int) (d : Int → Int) (rk k : Int) : Int × Int := foldG k (fun q _ => (plus q.1 (fd m d q.1 q.2).1, (fd m d q.1 q.2).2)) (0, rk)
def fdO (m : Int) (d : Int → Int) (rk k : Int) : Int := (fd m d (fdS m d rk k).1 (fdS m d rk k).2).1
theorem fdS_s {m : Int} {d : Int → Int} {rk k : Int} (hk : 0 ≤ k) : fdS m d rk (k + 1) = (plus (fdS m d rk k).1 (fdO m d rk k), (fd m d (fdS m d rk k).1 (fdS m d rk k).2).2) := foldG_s hk _ _
theorem fdN_s {m : Int} {d : Int → Int} {s r c : Int} (hc : c < m) : fdN m d s (m - c).toNat r c = if can d s c && decide (r < tl m d (plus s c)) then (c, r) else fdN m d s (m - (c + 1)).toNat (r - (if can d s c then tl m d (plus s c) else 0)) (c + 1) := by
  rw [show (m - c).toNat = (m - (c + 1)).toNat + 1 by omega]
  rfl
theorem all_of_cnt {m s : Int} (hm : 0 ≤ m ∧ m ≤ 10) (hs : 0 ≤ s ∧ s < p2 m) (h : cnt s < m) : s ≠ p2 m - 1 := by
  intro q
  rw [q, cnt_all hm] at h
  omega
theorem zcmp_lt {x y : Int} : zcmp x y < 0 ↔ x < y := by
  unfold zcmp
  split
  · omega
  · split <;> omega
theorem zcmp_gt {x y : Int} : 0 < zcmp x y ↔ y < x := by
  unfold zcmp
  split
  · omega
  · split <;> omega
def fairV (m : Int) (d : Int → Int) (a b : Int) : Int := if apr d a b && decide (3 * tl m d 0 ≤ 11 * lyF m d a b 0) && decide (11 * lyF m d a b 0 ≤ 8 * tl m d 0) then 10 * a + b else -1
def fairF (m : Int) (d : Int → Int) : Int := rs m (fun a => rs m (fun b => fairV m d a b) (a + 1)) 0
theorem isTh_off {M M2 : MM} (hs : sc M M2) (o a : Int) : isTh M2 o a = isTh M o a := by
  unfold isTh isOr
  rw [hs 36 (by omega), hs 38 (by omega)]
theorem dM_off {M M2 : MM} (hs : sc M M2) (o : Int) : dM M2 o = dM M o := by
  unfold dM
  rw [hs 39 (by omega)]
theorem bef_eq {M M2 : MM} (hs : sc M M2) {o a b : Int} (ha : isTh M o a = true) (hb : isTh M o b = true) (hne : a ≠ b) : (if isTh M2 o a && isTh M2 o b && decide (a ≠ b) then lyF (M2 38 o) (dM M2 o) a b 0 else -1) = lyF (M 38 o) (dM M o) a b 0 := by
  rw [isTh_off hs, isTh_off hs, dM_off hs, hs 38 (by omega), ha, hb]
  simp [hne]
/-- the rank of a row: sum and set behind k things -/
def rkI (m : Int) (d : Int → Int) (s r c : Int) : Int := foldZ c (fun r c => wr (r + (if can d s c then tl m d (plus s c) else 0))) r
def rkS (m : Int) (d x : Int → Int) (k : Int) : Int × Int := foldG k (fun q k => (rkI m d q.2 q.1 (x k), plus q.2 (x k))) (0, 0)
theorem rkS_s {m : Int} {d x : Int → Int} {k : Int} (hk : 0 ≤ k) : rkS m d x (k + 1) = (rkI m d (rkS m d x k).2 (rkS m d x k).1 (x k), plus (rkS m d x k).2 (x k)) := foldG_s hk _ _
theorem rkI_0 (m : Int) (d : Int → Int) (s r : Int) : rkI m d s r 0 = r := rfl
theorem rkI_s {m : Int} {d : Int → Int} {s r c : Int} (hc : 0 ≤ c) : rkI m d s r (c + 1) = wr (rkI m d s r c + (if can d s c then tl m d (plus s c) else 0)) := foldZ_s hc _ _
/-- JUMPS of a row x of h things -/
def jmp (d x : Int → Int) (h : Int) : Int := sumZ (h - 1) (fun k => B (!rel d (x k) (x (k + 1))))
def plc (m : Int) (x : Int → Int) (t : Int) : Int := rs m (fun k => if x k = t then k else -1) 0
def unl (m : Int) (x y : Int → Int) : Int := sumZ m (fun i => sumZ i (fun j => B (decide (plc m y (x i) < plc m y (x j)))))
