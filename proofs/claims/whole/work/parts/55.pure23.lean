/-! ===== the class's rows out ===== -/
def kp (M M1 : MM) : Prop := M1 9 = M 9 ∧ M1 10 = M 10 ∧ M1 11 = M 11
theorem kp.rf {M : MM} : kp M M := ⟨rfl, rfl, rfl⟩
theorem kp.st {M M1 : MM} (a : Int) (ha : (decide (a ≠ 9) && decide (a ≠ 10) && decide (a ≠ 11)) = true) (h : kp M M1) {k v : Int} : kp M (st2 M1 a k v) := by
  simp only [Bool.and_eq_true, decide_eq_true_eq] at ha
  exact ⟨by rw [st2_ne _ (fun e => ha.1.1 e.symm)]; exact h.1, by rw [st2_ne _ (fun e => ha.1.2 e.symm)]; exact h.2.1, by rw [st2_ne _ (fun e => ha.2 e.symm)]; exact h.2.2⟩
theorem CW.kp {M M1 : MM} {m : Int} {d : Int → Int} (h : CW M m d) (hk : kp M M1) : CW M1 m d := by
  unfold CW
  rw [hk.2.1, hk.2.2]
  exact h
theorem RC.kp {K : KK} {M M1 : MM} (h : RC K M) (hs : ∀ x, 55 ≤ x → M1 x = M x) (hk : kp M M1) : RC K M1 := by
  unfold RC CW
  rw [hk.1, hk.2.1, hk.2.2]
  rcases h with h | ⟨h1, hk1, h2, h3⟩
  · exact Or.inl h
  · right
    rw [hs _ h1, hs _ (by omega)]
    exact ⟨h1, hk1, h2, h3⟩
theorem sx.hi {M M1 : MM} (h : sx M M1) : ∀ x, 55 ≤ x → M1 x = M x := fun x hx => h.1 x (by omega)
theorem add_26 {M : MM} {x : Int} (h : M 26 1 < 10) : addM M 26 x 10 = st2 (st2 M 27 (M 26 1) x) 26 1 (M 26 1 + 1) := if_pos h
theorem add_19 {M : MM} {x : Int} (h : M 19 1 < 10) : addM M 19 x 10 = st2 (st2 M 20 (M 19 1) x) 19 1 (M 19 1 + 1) := if_pos h
theorem add_2 {M : MM} {x : Int} (h : M 2 1 < 10) : addM M 2 x 10 = st2 (st2 M 3 (M 2 1) x) 2 1 (M 2 1 + 1) := if_pos h
theorem add_4 {M : MM} {x : Int} (h : M 4 1 < 10) : addM M 4 x 10 = st2 (st2 M 5 (M 4 1) x) 4 1 (M 4 1 + 1) := if_pos h
theorem add_6 {M : MM} {x : Int} (h : M 6 1 < 60) : addM M 6 x 60 = st2 (st2 M 7 (M 6 1) x) 6 1 (M 6 1 + 1) := if_pos h
theorem fw_tl {m : Int} {d : Int → Int} {s : Int} (h : wy m d s ≠ 0) : fw m d s = tl m d s := if_neg (fun q => h q.1)
theorem tl_b {m : Int} {d : Int → Int} {s : Int} (hm : 0 ≤ m ∧ m ≤ 10) (hs : 0 ≤ s ∧ s < p2 m) : 0 ≤ tl m d s ∧ tl m d s ≤ 3628800 := ly_b10 hm hs
/-- a row out x -/
def RO (m : Int) (d x : Int → Int) : Prop := (∀ k, 0 ≤ k → k < m → 0 ≤ x k ∧ x k < m) ∧ ∀ k, 0 ≤ k → k < m → can d (hadS x k) (x k) = true
theorem hadS_p2 {m : Int} {x : XX} (hm : 0 ≤ m ∧ m ≤ 10) (hx : ∀ k, 0 ≤ k → k < m → 0 ≤ x k ∧ x k < m) : ∀ k : Nat, (k : Int) ≤ m → 0 ≤ hadS x k ∧ hadS x k < p2 m := by
  have hp := p2_b hm
  intro k
  induction k with
  | zero => intro _; show (0 : Int) ≤ 0 ∧ (0 : Int) < p2 m; omega
  | succ k ih =>
    intro hk
    rw [show ((k + 1 : Nat) : Int) = (k : Int) + 1 by omega, hadS_s (by omega)]
    exact plus_in hm (ih (by omega)) (hx k (by omega) (by omega))
theorem RO.w {m : Int} {d x : Int → Int} (hm : 0 ≤ m ∧ m ≤ 10) (h : RO m d x) : ∀ k : Nat, (k : Int) ≤ m → wy m d (hadS x k) ≠ 0 := by
  intro k
  induction k with
  | zero => intro _; show (wyS m d 0 0 (p2 m) 0) ≠ 0; have := wy_00 (d := d) hm; unfold wy at this; rw [this]; decide
  | succ k ih =>
    intro hk
    rw [show ((k + 1 : Nat) : Int) = (k : Int) + 1 by omega, hadS_s (by omega)]
    exact wy_up hm (hadS_p2 hm h.1 k (by omega)) (h.1 k (by omega) (by omega)) (ih (by omega)) (h.2 k (by omega) (by omega))
theorem rkI_R {m : Int} {d : Int → Int} {s r : Int} (hr : inR r) : ∀ c : Nat, inR (rkI m d s r c) := by
  intro c
  cases c with
  | zero => exact hr
  | succ c => rw [show ((c + 1 : Nat) : Int) = (c : Int) + 1 by omega, rkI_s (by omega)]; exact inR_to _
/-- ways through a set and a thing behind it -/
def wtC (m : Int) (d : Int → Int) (s t : Int) : Int := if wy m d s = 0 then 0 else if can d s t then wr (wy m d s * fw m d (plus s t)) else 0
theorem wtC_R (m : Int) (d : Int → Int) (s t : Int) : inR (wtC m d s t) := by
  unfold wtC
  split
  · exact ⟨by omega, by omega⟩
  · split
    · exact inR_to _
    · exact ⟨by omega, by omega⟩
def ahC (m : Int) (d : Int → Int) (a b : Int) : Int := foldZ (p2 m - 1) (fun acc s => if bt s a then wr (acc + wtC m d s b) else acc) 0
def plC (m : Int) (d : Int → Int) (t : Int) : Int := sumZ (p2 m - 1) (fun s => cnt s * wtC m d s t)
theorem plC_b {m : Int} {d : Int → Int} {t k : Int} (hk : 0 ≤ k ∧ k ≤ 1024) : -(k * 21474836480) ≤ sumZ k (fun s => cnt s * wtC m d s t) ∧ sumZ k (fun s => cnt s * wtC m d s t) ≤ k * 21474836480 := by
  have key : ∀ j : Nat, -((j : Int) * 21474836480) ≤ sumZ (j : Int) (fun s => cnt s * wtC m d s t) ∧ sumZ (j : Int) (fun s => cnt s * wtC m d s t) ≤ (j : Int) * 21474836480 := by
    intro j
    induction j with
    | zero => exact ⟨by show -((0 : Int) * _) ≤ (0 : Int); omega, by show (0 : Int) ≤ 0 * _; omega⟩
    | succ j ih =>
      rw [show ((j + 1 : Nat) : Int) = (j : Int) + 1 by omega, sumZ_s (by omega)]
      have h1 := cnt_b (j : Int)
      have h2 := wtC_R m d j t
      have h3 : -21474836480 ≤ cnt j * wtC m d j t ∧ cnt j * wtC m d j t ≤ 21474836480 := by
        have : cnt (j : Int) = 0 ∨ cnt (j : Int) = 1 ∨ cnt (j : Int) = 2 ∨ cnt (j : Int) = 3 ∨ cnt (j : Int) = 4 ∨ cnt (j : Int) = 5 ∨ cnt (j : Int) = 6 ∨ cnt (j : Int) = 7 ∨ cnt (j : Int) = 8 ∨ cnt (j : Int) = 9 ∨ cnt (j : Int) = 10 := by omega
        obtain ⟨h4, h5⟩ := h2
        rcases this with h | h | h | h | h | h | h | h | h | h | h <;> rw [h] <;> omega
      show -(((j : Int) + 1) * 21474836480) ≤ sumZ (j : Int) (fun s => cnt s * wtC m d s t) + cnt j * wtC m d j t ∧ sumZ (j : Int) (fun s => cnt s * wtC m d s t) + cnt j * wtC m d j t ≤ ((j : Int) + 1) * 21474836480
      omega
  have := key k.toNat
  rw [show ((k.toNat : Nat) : Int) = k by omega] at this
  exact this
def frC (m : Int) (d : Int → Int) (a b : Int) : Int := if apr d a b && (decide (3 * tl m d 0 ≤ wr (11 * ahC m d a b)) && decide (wr (11 * ahC m d a b) ≤ 8 * tl m d 0)) then 10 * a + b else -1
def fairC (m : Int) (d : Int → Int) : Int := rs m (fun a => rs m (fun b => frC m d a b) (a + 1)) 0
/-- fewest jumps, as the class keeps them -/
def sjF (d : Int → Int) (s : Int) (q : XX × XX) (t : Int) : Int := q.1 s + B (decide (s ≠ 0) && dis (q.2 s) (d t))
def sjC (d : Int → Int) (s : Int) (q : XX × XX) (t : Int) : XX × XX := if can d s t then
    (if sjF d s q t < q.1 (plus s t) then (up q.1 (plus s t) (sjF d s q t), up q.2 (plus s t) (zor 0 (zshl 1 t)))
     else if sjF d s q t = q.1 (plus s t) then (q.1, up q.2 (plus s t) (zor (q.2 (plus s t)) (zshl 1 t))) else q) else q
def ljS (m : Int) (d : Int → Int) (k : Int) : XX × XX := foldG k (fun q s => if wy m d s = 0 then q else foldG m (sjC d s) q) (fun t => if t = 0 then 0 else 10, fun _ => 0)
def ljC (m : Int) (d : Int → Int) : Int := (ljS m d (p2 m - 1)).1 (p2 m - 1)
def agr (m : Int) (q r : XX × XX) : Prop := ∀ t, 0 ≤ t → t < p2 m → q.1 t = r.1 t ∧ q.2 t = r.2 t
theorem sjC_agr {m : Int} {d : Int → Int} {s t : Int} {q r : XX × XX} (hm : 0 ≤ m ∧ m ≤ 10) (hs : 0 ≤ s ∧ s < p2 m) (ht : 0 ≤ t ∧ t < m) (h : agr m q r) : agr m (sjC d s q t) (sjC d s r t) := by
  have hpl := plus_in hm hs ht
  have e1 := h s hs.1 hs.2
  have e2 := h _ hpl.1 hpl.2
  have e3 : sjF d s q t = sjF d s r t := by unfold sjF; rw [e1.1, e1.2]
  intro u h0 h1
  unfold sjC
  rw [e3, e2.1, e2.2]
  have hu := h u h0 h1
  split
  · split
    · show up q.1 _ _ u = up r.1 _ _ u ∧ up q.2 _ _ u = up r.2 _ _ u
      unfold up
      rw [hu.1, hu.2]
      exact ⟨rfl, rfl⟩
    · split
      · show q.1 u = r.1 u ∧ up q.2 _ _ u = up r.2 _ _ u
        unfold up
        rw [hu.1, hu.2]
        exact ⟨rfl, rfl⟩
      · exact hu
  · exact hu
theorem sjG_agr {m : Int} {d : Int → Int} {s : Int} {q r : XX × XX} (hm : 0 ≤ m ∧ m ≤ 10) (hs : 0 ≤ s ∧ s < p2 m) (h : agr m q r) : agr m (foldG m (sjC d s) q) (foldG m (sjC d s) r) := by
  have key : ∀ k : Nat, (k : Int) ≤ m → agr m (foldG (k : Int) (sjC d s) q) (foldG (k : Int) (sjC d s) r) := by
    intro k
    induction k with
    | zero => intro _; exact h
    | succ k ih =>
      intro hk
      rw [show ((k + 1 : Nat) : Int) = (k : Int) + 1 by omega, foldG_s (by omega), foldG_s (by omega)]
      exact sjC_agr hm hs ⟨by omega, by omega⟩ (ih (by omega))
  have := key m.toNat (by omega)
  rw [show ((m.toNat : Nat) : Int) = m by omega] at this
  exact this
def sjB (m : Int) (q : XX × XX) : Prop := ∀ t, 0 ≤ t → t < p2 m → (0 ≤ q.1 t ∧ q.1 t ≤ 10) ∧ (0 ≤ q.2 t ∧ q.2 t < 1024)
theorem nth_neg {n s i : Int} {P : Int → Bool} (hi : i < 0) (hs : s ≤ n) : nth n P s i = -1 := by
  rcases Int.lt_or_le s n with q | q
  · rw [nth_s q, if_pos hi]
  · rw [nth_e q]
theorem sum_lt {m : Int} {d : Int → Int} {v : Int} (hv : 0 ≤ v ∧ v < p2 m) (h : wyP m d v = true) : sumZ v (fun s => B (wyP m d s)) + 1 ≤ lowNC m d := by
  unfold lowNC
  have key : ∀ j : Nat, v + 1 + j ≤ p2 m → sumZ v (fun s => B (wyP m d s)) + 1 ≤ sumZ (v + 1 + j) (fun s => B (wyP m d s)) := by
    intro j
    induction j with
    | zero =>
      intro _
      rw [show v + 1 + ((0 : Nat) : Int) = v + 1 by omega, sumZ_s hv.1]
      show _ ≤ _ + B (wyP m d v)
      rw [h]
      exact Int.le_refl _
    | succ j ih =>
      intro hj
      have h1 := ih (by omega)
      rw [show v + 1 + ((j + 1 : Nat) : Int) = (v + 1 + j) + 1 by omega, sumZ_s (c := v + 1 + j) (by omega)]
      have h2 := B_01 (wyP m d (v + 1 + j))
      show _ ≤ sumZ (v + 1 + j) (fun s => B (wyP m d s)) + B (wyP m d (v + 1 + j))
      omega
  have := key (p2 m - (v + 1)).toNat (by omega)
  rw [show v + 1 + (((p2 m - (v + 1)).toNat : Nat) : Int) = p2 m by omega] at this
  exact this
