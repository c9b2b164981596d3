/-! ===== searches with a way back ===== -/
abbrev XX : Type := Int → Int
def up (x : XX) (t c : Int) : XX := fun i => if i = t then c else x i
def nrm (n : Int) (x : XX) : XX := fun i => if 0 ≤ i ∧ i < n then x i else 0
def tryC (f : Int → Option XX) : Nat → Int → Option XX
  | 0, _ => none
  | j + 1, c => (f c).or (tryC f j (c + 1))
def srN (W n : Int) (P : XX → Int → Int → Bool) : Nat → Int → XX → Option XX
  | 0, _, x => some (nrm n x)
  | k + 1, t, x => tryC (fun c => if P x t c then srN W n P k (t + 1) (up x t c) else none) W.toNat 0
def dfs (W n : Int) (P : XX → Int → Int → Bool) : Option XX := srN W n P n.toNat 0 (fun _ => 0)
def oat (r : Option XX) (i : Int) : Int := match r with
  | some z => z i
  | none => -1
/-- what P says of a place rests on the places ahead of it alone -/
def locP (P : XX → Int → Int → Bool) : Prop := ∀ (x y : XX) (t c : Int), (∀ i, 0 ≤ i → i < t → x i = y i) → P x t c = P y t c
theorem tryC_congr {f g : Int → Option XX} : ∀ (j : Nat) (c : Int), (∀ e, c ≤ e → e < c + j → f e = g e) → tryC f j c = tryC g j c := by
  intro j
  induction j with
  | zero => intro c _; rfl
  | succ j ih =>
    intro c h
    show (f c).or (tryC f j (c + 1)) = (g c).or (tryC g j (c + 1))
    rw [h c (by omega) (by omega), ih (c + 1) (fun e h0 h1 => h e (by omega) (by omega))]
theorem srN_congr {W n : Int} {P : XX → Int → Int → Bool} (hP : locP P) : ∀ (k : Nat) (t : Int) (x y : XX), t + k = n → (∀ i, 0 ≤ i → i < t → x i = y i) → srN W n P k t x = srN W n P k t y := by
  intro k
  induction k with
  | zero =>
    intro t x y ht h
    show some (nrm n x) = some (nrm n y)
    congr 1
    funext i
    unfold nrm
    split
    · exact h i (by omega) (by omega)
    · rfl
  | succ k ih =>
    intro t x y ht h
    refine tryC_congr _ _ (fun e h0 h1 => ?_)
    show (if P x t e then srN W n P k (t + 1) (up x t e) else none) = (if P y t e then srN W n P k (t + 1) (up y t e) else none)
    rw [hP x y t e h, ih (t + 1) (up x t e) (up y t e) (by omega) (fun i h0 h1 => by unfold up; split; rfl; exact h i h0 (by omega))]
/-- level t, tried from c on -/
def lvl (W n : Int) (P : XX → Int → Int → Bool) (t : Int) (x : XX) (c : Int) : Option XX := if n ≤ t then some (nrm n x) else tryC (fun c => if P x t c then srN W n P (n - t - 1).toNat (t + 1) (up x t c) else none) (W - c).toNat c
def bk (W n : Int) (P : XX → Int → Int → Bool) (y : XX) : Nat → Option XX
  | 0 => none
  | j + 1 => (lvl W n P (j : Int) y (y (j : Int) + 1)).or (bk W n P y j)
theorem lvl_congr {W n : Int} {P : XX → Int → Int → Bool} (hP : locP P) {t c : Int} {x y : XX} (ht : 0 ≤ t ∧ t ≤ n) (h : ∀ i, 0 ≤ i → i < t → x i = y i) : lvl W n P t x c = lvl W n P t y c := by
  unfold lvl
  split
  · rename_i hn
    congr 1
    funext i
    unfold nrm
    split
    · exact h i (by omega) (by omega)
    · rfl
  · refine tryC_congr _ _ (fun e h0 h1 => ?_)
    show (if P x t e then srN W n P (n - t - 1).toNat (t + 1) (up x t e) else none) = (if P y t e then srN W n P (n - t - 1).toNat (t + 1) (up y t e) else none)
    rw [hP x y t e h, srN_congr hP (n - t - 1).toNat (t + 1) (up x t e) (up y t e) (by omega) (fun i h0 h1 => by unfold up; split; rfl; exact h i h0 (by omega))]
theorem bk_congr {W n : Int} {P : XX → Int → Int → Bool} (hP : locP P) {x y : XX} : ∀ j : Nat, (j : Int) ≤ n + 1 → (∀ i : Int, 0 ≤ i → i < j → x i = y i) → bk W n P x j = bk W n P y j := by
  intro j
  induction j with
  | zero => intro _ _; rfl
  | succ j ih =>
    intro hj h
    show (lvl W n P (j : Int) x (x (j : Int) + 1)).or (bk W n P x j) = (lvl W n P (j : Int) y (y (j : Int) + 1)).or (bk W n P y j)
    rw [ih (by omega) (fun i h0 h1 => h i h0 (by omega)), h j (by omega) (by omega), lvl_congr hP (by omega) (fun i h0 h1 => h i h0 (by omega))]
/-- level t at its present candidate, then back -/
def now (W n : Int) (P : XX → Int → Int → Bool) (y : XX) (t : Int) : Option XX := (lvl W n P t y (y t)).or (bk W n P y t.toNat)
theorem bk_0 {W n : Int} {P : XX → Int → Int → Bool} {y : XX} (hn : 0 ≤ n) (hP : locP P) (h0 : y 0 = -1) : bk W n P y 1 = dfs W n P := by
  show (lvl W n P ((0 : Nat) : Int) y (y ((0 : Nat) : Int) + 1)).or none = _
  rw [Option.or_none, show ((0 : Nat) : Int) = 0 from rfl, h0, show (-1 : Int) + 1 = 0 from rfl]
  unfold lvl dfs
  split
  · rw [show n.toNat = 0 by omega]
    show some (nrm n y) = some (nrm n _)
    congr 1
    funext i
    unfold nrm
    rw [if_neg (by omega), if_neg (by omega)]
  · rw [show n.toNat = (n - 0 - 1).toNat + 1 by omega]
    show _ = tryC _ W.toNat 0
    rw [show (W - 0).toNat = W.toNat by rw [Int.sub_zero]]
    refine tryC_congr _ _ (fun e h0 h1 => ?_)
    show (if P y 0 e then srN W n P _ _ _ else none) = (if P _ 0 e then srN W n P _ _ _ else none)
    rw [hP y (fun _ => 0) 0 e (fun i _ _ => by omega), srN_congr hP _ (0 + 1) (up y 0 e) (up (fun _ => 0) 0 e) (by omega) (fun i h0 h1 => by unfold up; rw [if_pos (by omega), if_pos (by omega)])]
/-- into the level: its candidate goes one on -/
theorem bk_in {W n : Int} {P : XX → Int → Int → Bool} (hP : locP P) {y : XX} {t : Int} (ht : 0 ≤ t ∧ t < n) : now W n P (up y t (y t + 1)) t = bk W n P y (t + 1).toNat := by
  unfold now
  rw [show (t + 1).toNat = t.toNat + 1 by omega]
  show _ = (lvl W n P ((t.toNat : Nat) : Int) y (y ((t.toNat : Nat) : Int) + 1)).or (bk W n P y t.toNat)
  rw [show ((t.toNat : Nat) : Int) = t by omega, show up y t (y t + 1) t = y t + 1 from if_pos rfl, lvl_congr hP (y := y) (by omega) (fun i h0 h1 => by unfold up; rw [if_neg (by omega)]), bk_congr hP (y := y) t.toNat (by omega) (fun i h0 h1 => by unfold up; rw [if_neg (by omega)])]
theorem lvl_s {W n : Int} {P : XX → Int → Int → Bool} {t c : Int} {x : XX} (ht : t < n) (hc : c < W) : lvl W n P t x c = (if P x t c then srN W n P (n - t - 1).toNat (t + 1) (up x t c) else none).or (lvl W n P t x (c + 1)) := by
  unfold lvl
  have hn : ¬ n ≤ t := by omega
  rw [if_neg hn, if_neg hn, show (W - c).toNat = (W - (c + 1)).toNat + 1 by omega]
  rfl
theorem lvl_e {W n : Int} {P : XX → Int → Int → Bool} {t c : Int} {x : XX} (ht : t < n) (hc : W ≤ c) : lvl W n P t x c = none := by
  unfold lvl
  rw [if_neg (by omega), show (W - c).toNat = 0 by omega]
  rfl
/-- a candidate that does not fit -/
theorem now_no {W n : Int} {P : XX → Int → Int → Bool} (hP : locP P) {y : XX} {t : Int} (ht : 0 ≤ t ∧ t < n) (hc : y t < W) (hf : P y t (y t) = false) : now W n P (up y t (y t + 1)) t = now W n P y t := by
  unfold now
  rw [show up y t (y t + 1) t = y t + 1 from if_pos rfl, lvl_congr hP (y := y) (by omega) (fun i h0 h1 => by unfold up; rw [if_neg (by omega)]), bk_congr hP (y := y) t.toNat (by omega) (fun i h0 h1 => by unfold up; rw [if_neg (by omega)]), lvl_s ht.2 hc, if_neg (by rw [hf]; decide), Option.none_or]
/-- none is left -/
theorem now_e {W n : Int} {P : XX → Int → Int → Bool} {y : XX} {t : Int} (ht : 0 ≤ t ∧ t < n) (hc : W ≤ y t) : now W n P y t = bk W n P y t.toNat := by
  unfold now
  rw [lvl_e ht.2 hc, Option.none_or]
/-- one fits: the next level from its start -/
theorem now_ok {W n : Int} {P : XX → Int → Int → Bool} (hP : locP P) {y : XX} {t : Int} (ht : 0 ≤ t ∧ t < n) (hW : 0 ≤ W) (hc : y t < W) (hf : P y t (y t) = true) : bk W n P (up y (t + 1) (-1)) (t + 1 + 1).toNat = now W n P y t := by
  rw [show (t + 1 + 1).toNat = (t + 1).toNat + 1 by omega]
  show (lvl W n P (((t + 1).toNat : Nat) : Int) (up y (t + 1) (-1)) (up y (t + 1) (-1) (((t + 1).toNat : Nat) : Int) + 1)).or (bk W n P (up y (t + 1) (-1)) (t + 1).toNat) = _
  rw [show (((t + 1).toNat : Nat) : Int) = t + 1 by omega, show up y (t + 1) (-1) (t + 1) = -1 from if_pos rfl, show (-1 : Int) + 1 = 0 from rfl, bk_congr hP (y := y) (t + 1).toNat (by omega) (fun i h0 h1 => by unfold up; rw [if_neg (by omega)])]
  have e1 : lvl W n P (t + 1) (up y (t + 1) (-1)) 0 = srN W n P (n - t - 1).toNat (t + 1) (up y t (y t)) := by
    have e2 : srN W n P (n - t - 1).toNat (t + 1) (up y t (y t)) = srN W n P (n - t - 1).toNat (t + 1) (up y (t + 1) (-1)) := srN_congr hP _ _ _ _ (by omega) (fun i h0 h1 => by unfold up; rw [if_neg (show ¬ i = t + 1 by omega)]; split; (rename_i h; rw [h]); rfl)
    rw [e2]
    unfold lvl
    split
    · rw [show (n - t - 1).toNat = 0 by omega]; rfl
    · rw [show (n - t - 1).toNat = (n - (t + 1) - 1).toNat + 1 by omega]
      show _ = tryC _ W.toNat 0
      rw [show (W - 0).toNat = W.toNat by rw [Int.sub_zero]]
  rw [e1]
  unfold now
  rw [lvl_s ht.2 hc, if_pos hf, show (t + 1).toNat = t.toNat + 1 by omega]
  show _ = _
  rw [Option.or_assoc]
  congr 1
  show (lvl W n P ((t.toNat : Nat) : Int) y (y ((t.toNat : Nat) : Int) + 1)).or (bk W n P y t.toNat) = _
  rw [show ((t.toNat : Nat) : Int) = t by omega]
/-- behind the last level: all places are taken -/
theorem bk_n {W n : Int} {P : XX → Int → Int → Bool} {y : XX} (hn : 0 ≤ n) : bk W n P y (n + 1).toNat = some (nrm n y) := by
  rw [show (n + 1).toNat = n.toNat + 1 by omega]
  show (lvl W n P ((n.toNat : Nat) : Int) y (y ((n.toNat : Nat) : Int) + 1)).or (bk W n P y n.toNat) = _
  unfold lvl
  rw [if_pos (by omega)]
  rfl
theorem now_congr {W n : Int} {P : XX → Int → Int → Bool} (hP : locP P) {x y : XX} {t : Int} (ht : 0 ≤ t ∧ t < n) (h : ∀ i, 0 ≤ i → i ≤ t → x i = y i) : now W n P x t = now W n P y t := by
  unfold now
  rw [lvl_congr hP (y := y) (by omega) (fun i h0 h1 => h i h0 (by omega)), bk_congr hP (y := y) t.toNat (by omega) (fun i h0 h1 => h i h0 (by omega)), h t ht.1 (by omega)]
/-- what is left to try -/
def mu (y : XX) : Nat → Nat
  | 0 => 0
  | j + 1 => mu y j + (11 - y (j : Int)).toNat * 13 ^ (10 - j)
theorem mu_congr {x y : XX} : ∀ j : Nat, (∀ i, 0 ≤ i → i < (j : Int) → x i = y i) → mu x j = mu y j := by
  intro j
  induction j with
  | zero => intro _; rfl
  | succ j ih =>
    intro h
    show mu x j + (11 - x (j : Int)).toNat * 13 ^ (10 - j) = mu y j + (11 - y (j : Int)).toNat * 13 ^ (10 - j)
    rw [ih (fun i h0 h1 => h i h0 (by omega)), h j (by omega) (by omega)]
theorem mu_back {x y : XX} {t : Int} (ht : 0 ≤ t) (h : ∀ i, 0 ≤ i → i < t → x i = y i) (hy : y t ≤ 10) : mu x t.toNat < mu y (t + 1).toNat := by
  rw [show (t + 1).toNat = t.toNat + 1 by omega, mu_congr (y := y) t.toNat (fun i h0 h1 => h i h0 (by omega))]
  show _ < mu y t.toNat + (11 - y ((t.toNat : Nat) : Int)).toNat * 13 ^ (10 - t.toNat)
  rw [show ((t.toNat : Nat) : Int) = t by omega]
  have h1 : 0 < (11 - y t).toNat := by omega
  have h2 : 0 < 13 ^ (10 - t.toNat) := Nat.pos_of_ne_zero (by simp)
  have := Nat.mul_pos h1 h2
  omega
theorem mu_next {x y : XX} {t : Int} (ht : 0 ≤ t ∧ t < 10) (h : ∀ i, 0 ≤ i → i < t → x i = y i) (hx : y t < x t ∧ x t ≤ 10) (hx1 : x (t + 1) = -1) : mu x (t + 1 + 1).toNat < mu y (t + 1).toNat := by
  rw [show (t + 1 + 1).toNat = t.toNat + 1 + 1 by omega, show (t + 1).toNat = t.toNat + 1 by omega]
  show mu x t.toNat + (11 - x ((t.toNat : Nat) : Int)).toNat * 13 ^ (10 - t.toNat) + (11 - x ((t.toNat + 1 : Nat) : Int)).toNat * 13 ^ (10 - (t.toNat + 1)) < mu y t.toNat + (11 - y ((t.toNat : Nat) : Int)).toNat * 13 ^ (10 - t.toNat)
  rw [show ((t.toNat + 1 : Nat) : Int) = t + 1 by omega, show ((t.toNat : Nat) : Int) = t by omega, hx1, mu_congr (y := y) t.toNat (fun i h0 h1 => h i h0 (by omega)), show 10 - t.toNat = (10 - (t.toNat + 1)) + 1 by omega, Nat.pow_succ]
  have hA : 0 < 13 ^ (10 - (t.toNat + 1)) := Nat.pos_of_ne_zero (by simp)
  revert hA
  generalize 13 ^ (10 - (t.toNat + 1)) = A
  intro hA
  have h3 : (11 - x t).toNat + 1 ≤ (11 - y t).toNat := by omega
  have h4 := Nat.mul_le_mul_right (A * 13) h3
  rw [Nat.add_mul, Nat.one_mul] at h4
  rw [show ((11 : Int) - -1).toNat = 12 from rfl]
  omega
theorem tryC_some {f : Int → Option XX} {z : XX} : ∀ (j : Nat) (c : Int), tryC f j c = some z → ∃ e, c ≤ e ∧ e < c + j ∧ f e = some z := by
  intro j
  induction j with
  | zero => intro c h; cases h
  | succ j ih =>
    intro c h
    have h' : (f c).or (tryC f j (c + 1)) = some z := h
    cases hf : f c with
    | some w =>
      rw [hf] at h'
      exact ⟨c, by omega, by omega, by rw [hf]; exact h'⟩
    | none =>
      rw [hf, Option.none_or] at h'
      obtain ⟨e, h0, h1, h2⟩ := ih (c + 1) h'
      exact ⟨e, by omega, by omega, h2⟩
theorem tryC_none {f : Int → Option XX} : ∀ (j : Nat) (c : Int), tryC f j c = none → ∀ e, c ≤ e → e < c + j → f e = none := by
  intro j
  induction j with
  | zero => intro c _ e h0 h1; omega
  | succ j ih =>
    intro c h e h0 h1
    have h' : (f c).or (tryC f j (c + 1)) = none := h
    cases hf : f c with
    | some w => rw [hf] at h'; cases h'
    | none =>
      rw [hf, Option.none_or] at h'
      by_cases he : e = c
      · rw [he]; exact hf
      · exact ih (c + 1) h' e (by omega) (by omega)
theorem srN_sound {W n : Int} {P : XX → Int → Int → Bool} (hP : locP P) {z : XX} : ∀ (k : Nat) (t : Int) (x : XX), t + k = n → 0 ≤ t → srN W n P k t x = some z → (∀ i, 0 ≤ i → i < t → z i = x i) ∧ (∀ i, t ≤ i → i < n → P z i (z i) = true ∧ 0 ≤ z i ∧ z i < W) ∧ nrm n z = z := by
  intro k
  induction k with
  | zero =>
    intro t x ht h0 h
    have h' : some (nrm n x) = some z := h
    have h2 : nrm n x = z := Option.some.inj h'
    refine ⟨fun i h1 h3 => ?_, fun i h1 h3 => by omega, ?_⟩
    · rw [← h2]; unfold nrm; rw [if_pos ⟨h1, by omega⟩]
    · rw [← h2]; funext i; unfold nrm; split <;> rfl
  | succ k ih =>
    intro t x ht h0 h
    obtain ⟨e, he0, he1, he2⟩ := tryC_some _ _ h
    by_cases hp : P x t e = true
    · rw [if_pos hp] at he2
      obtain ⟨g1, g2, g3⟩ := ih (t + 1) (up x t e) (by omega) (by omega) he2
      have gt : z t = e := by rw [g1 t h0 (by omega)]; exact if_pos rfl
      have gl : ∀ i, 0 ≤ i → i < t → z i = x i := fun i h1 h2 => by rw [g1 i h1 (by omega)]; exact if_neg (by omega)
      refine ⟨gl, fun i h1 h2 => ?_, g3⟩
      by_cases hi : i = t
      · rw [hi, gt, hP z x t e gl]; exact ⟨hp, by omega, by omega⟩
      · exact g2 i (by omega) h2
    · rw [if_neg hp] at he2; cases he2
theorem srN_compl {W n : Int} {P : XX → Int → Int → Bool} (hP : locP P) {z : XX} : ∀ (k : Nat) (t : Int) (x : XX), t + k = n → 0 ≤ t → (∀ i, 0 ≤ i → i < t → z i = x i) → (∀ i, t ≤ i → i < n → P z i (z i) = true ∧ 0 ≤ z i ∧ z i < W) → srN W n P k t x ≠ none := by
  intro k
  induction k with
  | zero => intro t x ht h0 h1 h2 h; cases h
  | succ k ih =>
    intro t x ht h0 h1 h2 h
    obtain ⟨g1, g2, g3⟩ := h2 t (by omega) (by omega)
    have := tryC_none _ _ h (z t) g2 (by omega)
    rw [← hP z x t (z t) h1, if_pos g1] at this
    refine ih (t + 1) (up x t (z t)) (by omega) (by omega) (fun i h3 h4 => ?_) (fun i h3 h4 => h2 i (by omega) h4) this
    unfold up
    split
    · rename_i hi; rw [hi]
    · exact h1 i h3 (by omega)
theorem srN_prune {W n : Int} {P Q : XX → Int → Int → Bool} (hP : locP P) (hQ : locP Q) (h : ∀ z : XX, (∀ i, 0 ≤ i → i < n → P z i (z i) = true ∧ 0 ≤ z i ∧ z i < W) → ∀ i, 0 ≤ i → i < n → Q z i (z i) = true) : ∀ (k : Nat) (t : Int) (x : XX), t + k = n → 0 ≤ t → (∀ i, 0 ≤ i → i < t → P x i (x i) = true ∧ 0 ≤ x i ∧ x i < W) → srN W n P k t x = srN W n (fun x t c => P x t c && Q x t c) k t x := by
  intro k
  induction k with
  | zero => intro t x _ _ _; rfl
  | succ k ih =>
    intro t x ht h0 hx
    refine tryC_congr _ _ (fun e h1 h2 => ?_)
    show (if P x t e then srN W n P k (t + 1) (up x t e) else none) = (if P x t e && Q x t e then srN W n (fun x t c => P x t c && Q x t c) k (t + 1) (up x t e) else none)
    by_cases hp : P x t e = true
    · have hu : ∀ i, 0 ≤ i → i < t + 1 → P (up x t e) i (up x t e i) = true ∧ 0 ≤ up x t e i ∧ up x t e i < W := by
        intro i h3 h4
        rw [hP (up x t e) x i _ (fun j h5 h6 => by unfold up; rw [if_neg (by omega)])]
        by_cases hi : i = t
        · rw [hi, show up x t e t = e from if_pos rfl]; exact ⟨hp, by omega, by omega⟩
        · rw [show up x t e i = x i from if_neg hi]; exact hx i h3 (by omega)
      by_cases hq : Q x t e = true
      · rw [if_pos hp, if_pos (by rw [hp, hq]; rfl)]
        exact ih (t + 1) (up x t e) (by omega) (by omega) hu
      · rw [if_pos hp, if_neg (by rw [hp]; simpa using hq)]
        cases hs : srN W n P k (t + 1) (up x t e) with
        | none => rfl
        | some z =>
          exfalso
          obtain ⟨g1, g2, g3⟩ := srN_sound hP k (t + 1) (up x t e) (by omega) (by omega) hs
          have hz := h z (fun i h3 h4 => by
            by_cases hi : i < t + 1
            · rw [g1 i h3 hi, hP z (up x t e) i _ (fun j h5 h6 => g1 j h5 (by omega))]; exact hu i h3 hi
            · exact g2 i (by omega) h4) t h0 (by omega)
          have gt : z t = e := by rw [g1 t h0 (by omega)]; exact if_pos rfl
          rw [gt, hQ z x t e (fun j h5 h6 => by rw [g1 j h5 (by omega)]; exact if_neg (by omega))] at hz
          exact hq hz
    · rw [if_neg hp, if_neg (by simp [hp])]
/-- two searches with the same answers find the same one first -/
theorem dfs_eq {W n : Int} {P Q : XX → Int → Int → Bool} (hn : 0 ≤ n) (hP : locP P) (hQ : locP Q) (h : ∀ z : XX, (∀ i, 0 ≤ i → i < n → 0 ≤ z i ∧ z i < W) → ((∀ i, 0 ≤ i → i < n → P z i (z i) = true) ↔ ∀ i, 0 ≤ i → i < n → Q z i (z i) = true)) : dfs W n P = dfs W n Q := by
  unfold dfs
  rw [srN_prune hP hQ (fun z hz => (h z (fun i h0 h1 => (hz i h0 h1).2)).mp (fun i h0 h1 => (hz i h0 h1).1)) n.toNat 0 _ (by omega) (by omega) (fun i h0 h1 => by omega),
    srN_prune hQ hP (fun z hz => (h z (fun i h0 h1 => (hz i h0 h1).2)).mpr (fun i h0 h1 => (hz i h0 h1).1)) n.toNat 0 _ (by omega) (by omega) (fun i h0 h1 => by omega)]
  congr 1
  funext x t c
  exact Bool.and_comm _ _
theorem dfs_sound {W n : Int} {P : XX → Int → Int → Bool} (hn : 0 ≤ n) (hP : locP P) {z : XX} (h : dfs W n P = some z) : (∀ i, 0 ≤ i → i < n → P z i (z i) = true ∧ 0 ≤ z i ∧ z i < W) ∧ nrm n z = z :=
  (srN_sound hP n.toNat 0 _ (by omega) (by omega) h).2
theorem dfs_compl {W n : Int} {P : XX → Int → Int → Bool} (hn : 0 ≤ n) (hP : locP P) {z : XX} (h : ∀ i, 0 ≤ i → i < n → P z i (z i) = true ∧ 0 ≤ z i ∧ z i < W) : dfs W n P ≠ none :=
  srN_compl hP n.toNat 0 _ (by omega) (by omega) (fun i h0 h1 => by omega) h
/-! the three searches -/
def usd (x : XX) (t : Int) : Int := foldZ t (fun u a => if u ≤ x a then x a + 1 else u) 0
def chP (d : Int → Int) (W : Int) : XX → Int → Int → Bool := fun x t c => allB t (fun a => !(decide (x a = c) && apr d a t)) && (decide (c ≤ usd x t) && decide (c < W))
def hadS (x : XX) (k : Int) : Int := foldZ k (fun s i => plus s (x i)) 0
def twP (d : Int → Int) : XX → Int → Int → Bool := fun x k c => can d (hadS x k) c && allB k (fun i => allB k (fun j => decide (j ≤ i) || !(rel d (x i) c && (apr d (x i) (x j) && apr d (x j) c))))
def mpP (m : Int) (d e : Int → Int) : XX → Int → Int → Bool := fun x t c => decide (lev m d t = lev m e c) && allB t (fun a => !decide (x a = c) && ((rel d a t == rel e (x a) c) && (rel d t a == rel e c (x a))))
def chR (m : Int) (d : Int → Int) : Option XX := dfs (cnt (wide m d)) m (chP d (cnt (wide m d)))
def twR (m : Int) (d : Int → Int) : Option XX := dfs m m (twP d)
def mpR (m : Int) (d e : Int → Int) : Option XX := if allB m (fun c => decide (ofLev m d (lev m d c) = ofLev m e (lev m d c))) then dfs m m (mpP m d e) else none
theorem usd_congr {x y : XX} {t : Int} (h : ∀ i, 0 ≤ i → i < t → x i = y i) : usd x t = usd y t := foldZ_congr (fun u c h0 h1 => by rw [h c h0 h1])
theorem hadS_congr {x y : XX} {t : Int} (h : ∀ i, 0 ≤ i → i < t → x i = y i) : hadS x t = hadS y t := foldZ_congr (fun u c h0 h1 => by rw [h c h0 h1])
theorem chP_loc (d : Int → Int) (W : Int) : locP (chP d W) := by
  intro x y t c h
  unfold chP
  rw [usd_congr h, allB_congr (fun a h0 h1 => by rw [h a h0 h1])]
theorem twP_loc (d : Int → Int) : locP (twP d) := by
  intro x y t c h
  unfold twP
  rw [hadS_congr h]
  congr 1
  refine allB_congr (fun a h0 h1 => ?_)
  rw [h a h0 h1]
  exact allB_congr (fun j h2 h3 => by rw [h j h2 h3])
theorem mpP_loc (m : Int) (d e : Int → Int) : locP (mpP m d e) := by
  intro x y t c h
  unfold mpP
  rw [allB_congr (fun a h0 h1 => by rw [h a h0 h1])]
