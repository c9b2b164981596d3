/-! ===== the hand, in both ===== -/
theorem lkR_congr {h : Int} {d x y : Int → Int} (he : ∀ i, 0 ≤ i → i < h → x i = y i) : ∀ (k : Nat) (v had : Int), (h - v).toNat = k → 0 ≤ v → lkR h d x v had = lkR h d y v had := by
  intro k
  induction k with
  | zero => intro v had hk h0; rw [lkR_e (by omega), lkR_e (by omega)]
  | succ k ih =>
    intro v had hk h0
    rw [lkR_s (show v < h by omega) d x, lkR_s (show v < h by omega) d y, he v h0 (by omega), ih (v + 1) _ (by omega) (by omega)]
theorem lkR_ok {h : Int} {d x : Int → Int} (hh : lkR h d x 0 0 = -1) : ∀ k : Nat, (k : Int) ≤ h → lkR h d x k (hadS x k) = -1 ∧ ∀ i, 0 ≤ i → i < (k : Int) → sub (d (x i)) (hadS x i) = true := by
  intro k
  induction k with
  | zero => intro _; exact ⟨hh, fun i h0 h1 => by omega⟩
  | succ k ih =>
    intro hk
    obtain ⟨h1, h2⟩ := ih (by omega)
    rw [lkR_s (by omega)] at h1
    by_cases hs : sub (d (x k)) (hadS x k) = true
    · rw [if_pos hs] at h1
      refine ⟨?_, fun i i0 i1 => ?_⟩
      · rw [show ((k + 1 : Nat) : Int) = (k : Int) + 1 by omega, hadS_s (by omega)]; exact h1
      · by_cases hi : i = k
        · rw [hi]; exact hs
        · exact h2 i i0 (by omega)
    · rw [if_neg hs] at h1; omega
theorem hadS_not {x : XX} {m : Int} (hm : m ≤ 10) {k : Int} (hk : 0 ≤ k ∧ k < m) (hx : ∀ i, 0 ≤ i → i < m → 0 ≤ x i ∧ x i < m) (hd : ∀ j i, 0 ≤ j → j < i → i < m → x j ≠ x i) : bt (hadS x k) (x k) = false := by
  cases hb : bt (hadS x k) (x k) with
  | false => rfl
  | true =>
    exfalso
    have h0 := hx k hk.1 hk.2
    have h1 := (hadS_bt (x := x) k.toNat (fun i i0 i1 => by have := hx i i0 (by omega); omega) (x k) h0.1).mp (by rw [show ((k.toNat : Nat) : Int) = k by omega]; exact hb)
    obtain ⟨i, i0, i1, i2⟩ := h1
    exact hd i k i0 (by omega) hk.2 i2
theorem RO.of {m : Int} {d x : Int → Int} (hm : 0 ≤ m ∧ m ≤ 10) (hx : ∀ i, 0 ≤ i → i < m → 0 ≤ x i ∧ x i < m) (hd : ∀ j i, 0 ≤ j → j < i → i < m → x j ≠ x i) (hl : lkR m d x 0 0 = -1) : RO m d x := by
  refine ⟨hx, fun k h0 h1 => ?_⟩
  have h2 := (lkR_ok hl m.toNat (by omega)).2 k h0 (by omega)
  exact can_iff.mpr ⟨hadS_not hm.2 ⟨h0, h1⟩ hx hd, h2⟩
theorem rkS_congr {m : Int} {d x y : Int → Int} {k : Int} (he : ∀ i, 0 ≤ i → i < k → x i = y i) : rkS m d x k = rkS m d y k := foldG_congr (fun q c h0 h1 => by rw [he c h0 h1])
theorem jmp_congr {d x y : Int → Int} {h : Int} (he : ∀ i, 0 ≤ i → i < h → x i = y i) : jmp d x h = jmp d y h := by
  unfold jmp
  exact sumZ_congr (fun k h0 h1 => by rw [he k h0 (by omega), he (k + 1) (by omega) (by omega)])
/-- how unlike, as the class counts -/
def unC (m : Int) (x y : Int → Int) : Int := sumZ m (fun i => sumZ m (fun j => B (decide (i < j) && decide (plc m y (x j) < plc m y (x i)))))
theorem unC_unl {m : Int} (hm : 0 ≤ m) (x y : Int → Int) : unC m x y = unl m x y := by
  unfold unC unl
  rw [sumZ_swap]
  refine sumZ_congr (fun j h0 h1 => ?_)
  rw [sumZ_tail (n := m) (m := j) h0 (by omega) (fun c c0 c1 => by rw [decide_eq_false (by omega)]; rfl)]
  exact sumZ_congr (fun i i0 i1 => by rw [decide_eq_true (show i < j by omega)]; rfl)
theorem plc_e {m : Int} {x y : XX} {t : Int} (h : ∀ k, 0 ≤ k → k < m → x k = y k) : plc m x t = plc m y t := plc_congr h t
theorem hv_le {K : KK} {M : MM} (hm : MO K M) (h : HV M) (hp : 0 < M 36 5) : M 36 5 ≤ M 38 (M 36 4) := by
  have ho := h.2.1 hp
  have h8 := hm.2.1
  have hsz := hm.sz (o := M 36 4) ⟨ho.1, by omega⟩
  have := pigeon (M 38 (M 36 4)).toNat (M 36 5).toNat (fun k => (M 40 k).toNat) (fun k hk => by
    have := h.2.2.1 k (by omega) (by omega)
    show (M 40 k).toNat < _
    omega) (fun j k h1 h2 => by
    have a := h.2.2.1 j (by omega) (by omega)
    have b := h.2.2.1 k (by omega) (by omega)
    have c := h.2.2.2 j k (by omega) (by omega) (by omega)
    show (M 40 j).toNat ≠ (M 40 k).toNat
    omega)
  have := h.1
  omega
