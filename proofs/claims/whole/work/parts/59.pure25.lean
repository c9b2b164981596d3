/-! ===== the class's searches ===== -/
theorem tryC_s {f : Int → Option XX} {W c : Int} (h : c < W) : tryC f (W - c).toNat c = (f c).or (tryC f (W - (c + 1)).toNat (c + 1)) := by
  rw [show (W - c).toNat = (W - (c + 1)).toNat + 1 by omega]
  rfl
theorem tryC_e {f : Int → Option XX} {W c : Int} (h : W ≤ c) : tryC f (W - c).toNat c = none := by
  rw [show (W - c).toNat = 0 by omega]
  rfl
theorem tryC_skip {f : Int → Option XX} {W : Int} : ∀ (k : Nat) (c : Int), (W - c).toNat = k → (∀ e, c ≤ e → e < W → f e = none) → tryC f (W - c).toNat c = none := by
  intro k
  induction k with
  | zero => intro c hk _; rw [hk]; rfl
  | succ k ih =>
    intro c hk h
    rw [tryC_s (by omega), h c (by omega) (by omega), Option.none_or]
    exact ih (c + 1) (by omega) (fun e h0 h1 => h e (by omega) h1)
/-- what the class asks of an image -/
def gmP (d e : Int → Int) (mk1 mk2 : XX) : XX → Int → Int → Bool := fun x t c => !bt (hadS x t) c && (decide (mk1 t = mk2 c) && allB t (fun a => (rel d a t == rel e (x a) c) && (rel d t a == rel e c (x a))))
theorem gmP_loc (d e : Int → Int) (mk1 mk2 : XX) : locP (gmP d e mk1 mk2) := by
  intro x y t c h
  unfold gmP
  rw [hadS_congr h, allB_congr (fun a h0 h1 => by rw [h a h0 h1])]
/-- what the class asks of the next thing of the first row -/
def ptO (m : Int) (d : Int → Int) (s t : Int) : Bool := exB m (fun a => bt (zand s (zxor (d t) (-1))) a && !dis (upS m d a) (zand (zand (p2 m - 1) (zxor s (-1))) (zxor (upS m d t) (-1))))
def grP (m : Int) (d : Int → Int) : XX → Int → Int → Bool := fun x k c => can d (hadS x k) c && !ptO m d (hadS x k) c
theorem grP_loc (m : Int) (d : Int → Int) : locP (grP m d) := by
  intro x y t c h
  unfold grP
  rw [hadS_congr h]
theorem hadS_up {x : XX} {t c : Int} (ht : 0 ≤ t) : hadS (up x t c) (t + 1) = plus (hadS x t) c := by
  rw [hadS_s ht, hadS_congr (x := up x t c) (y := x) (t := t) (fun i h0 h1 => if_neg (by omega)), show up x t c t = c from if_pos rfl]
theorem p2_m1 {m : Int} (hm : 0 ≤ m ∧ m ≤ 10) {a : Int} (ha : 0 ≤ a ∧ a < m) : bt (p2 m - 1) a = true := by
  have hp := p2_b hm
  exact cnt_full hm ⟨by omega, by omega⟩ (cnt_all hm) ha
/-- chains as sets -/
def chS (x : XX) (t c : Int) : Int := mk t (fun a => decide (x a = c))
theorem usd_up {x : XX} {t c : Int} (ht : 0 ≤ t) : usd (up x t c) (t + 1) = if usd x t ≤ c then c + 1 else usd x t := by
  have e : usd (up x t c) t = usd x t := usd_congr (fun i h0 h1 => if_neg (by omega))
  show foldZ (t + 1) _ 0 = _
  rw [foldZ_s ht]
  show (if usd (up x t c) t ≤ up x t c t then up x t c t + 1 else usd (up x t c) t) = _
  rw [e, show up x t c t = c from if_pos rfl]
theorem chS_up {x : XX} {t c e : Int} (ht : 0 ≤ t ∧ t < 10) : chS (up x t c) (t + 1) e = if c = e then zor (chS x t e) (zshl 1 t) else chS x t e := by
  unfold chS
  rw [mk_s ht.1, mk_congr (Q := fun a => decide (x a = e)) (fun a h0 h1 => by rw [show up x t c a = x a from if_neg (by omega)]), show up x t c t = c from if_pos rfl]
  by_cases h : c = e
  · rw [if_pos h, if_pos (by simp [h])]
  · rw [if_neg h, if_neg (by simp [h])]
theorem chS_b {x : XX} {t c : Int} (ht : 0 ≤ t ∧ t ≤ 10) : 0 ≤ chS x t c ∧ chS x t c < 1024 := mk_lt ht _
theorem zdif_plus {t : Int} {P : Int → Bool} (ht : 0 ≤ t ∧ t < 10) : zand (zor (mk t P) (zshl 1 t)) (zxor (zshl 1 t) (-1)) = mk t P := by
  have h1 := mk_nn (n := t) (by omega) P
  have h2 : nn (zshl 1 t) := nn_zshl1 ⟨ht.1, by omega⟩
  refine bt_ext (nn_zdif (nn_zor h1 h2) h2) h1 (fun a h0 h3 => ?_)
  rw [bt_zdif (nn_zor h1 h2) h2, bt_zor h1 h2, bt_zshl1 ⟨ht.1, by omega⟩ h0, bt_mk (by omega) _ h0]
  by_cases ha : t = a
  · rw [decide_eq_true ha, decide_eq_false (show ¬ a < t by omega)]; simp
  · rw [decide_eq_false ha]; simp
/-- a chain takes t -/
theorem chS_ok {m : Int} {d : Int → Int} (hO : OK m d) {x : XX} {t c : Int} (ht : 0 ≤ t ∧ t < m) : decide (zand (chS x t c) (zxor (zor (d t) (upS m d t)) (-1)) = 0) = allB t (fun a => !(decide (x a = c) && apr d a t)) := by
  have hm := hO.1
  have n1 := nn10 (chS_b (x := x) (c := c) (t := t) ⟨ht.1, by omega⟩)
  have n2 := hO.nn (b := t) ⟨ht.1, by omega⟩
  have n3 : nn (upS m d t) := mk_nn (by omega) _
  rw [Bool.eq_iff_iff, decide_eq_true_eq, zdif_0 n1 (nn_zor n2 n3), allB_iff]
  constructor
  · intro g a h0 h1
    cases hx : decide (x a = c) with
    | false => rfl
    | true =>
      have := g a h0 (by omega) (by unfold chS; rw [bt_mk (by omega) _ h0, decide_eq_true h1, hx]; rfl)
      rw [bt_zor n2 n3, Bool.or_eq_true, bt_upS hm.2 h0] at this
      rw [Bool.true_and, Bool.not_eq_true']
      unfold apr
      rcases this with q | q
      · show (decide (a ≠ t) && !bt (d t) a && !rel d t a) = false
        rw [q]; simp
      · rw [Bool.and_eq_true] at q; rw [q.2]; simp
  · intro g a h0 h1 hb
    unfold chS at hb
    rw [bt_mk (by omega) _ h0, Bool.and_eq_true, decide_eq_true_eq] at hb
    have := g a h0 hb.1
    rw [hb.2, Bool.true_and, Bool.not_eq_true'] at this
    rw [bt_zor n2 n3, bt_upS hm.2 h0]
    unfold apr at this
    rw [decide_eq_true (show a ≠ t by omega), Bool.true_and] at this
    show (rel d a t || (decide (a < m) && rel d t a)) = true
    rw [decide_eq_true (show a < m by omega)]
    cases h2 : rel d a t with
    | true => rfl
    | false =>
      cases h3 : rel d t a with
      | true => rfl
      | false => rw [h2, h3] at this; cases this
/-- marks -/
def smk (s : Int) (F : XX) : Int := foldZ 10 (fun v t => if bt s t then wr (v + wr (wr (F t * F t) + 7)) else v) 0
def nmk (m : Int) (d : Int → Int) (F : XX) (t : Int) : Int := wr (wr (wr (F t * 31) + wr (smk (d t) F * 3)) + wr (smk (upS m d t) F * 5))
def mkS (m : Int) (d : Int → Int) (k : Int) : XX := foldG k (fun F _ => fun t => if 0 ≤ t ∧ t < m then nmk m d F t else 0) (fun t => if 0 ≤ t ∧ t < m then 1 else 0)
theorem smk_congr {m s : Int} {F H : XX} (hm : 0 ≤ m ∧ m ≤ 10) (hs : 0 ≤ s ∧ s < p2 m) (h : ∀ t, 0 ≤ t → t < m → F t = H t) : smk s F = smk s H := by
  unfold smk
  refine foldZ_congr (fun v t h0 h1 => ?_)
  by_cases ht : t < m
  · rw [h t h0 ht]
  · rw [bt_hi hm hs (by omega), if_neg (by decide), if_neg (by decide)]
theorem nmk_congr {m : Int} {d : Int → Int} (hO : OK m d) {F H : XX} (h : ∀ t, 0 ≤ t → t < m → F t = H t) {t : Int} (ht : 0 ≤ t ∧ t < m) : nmk m d F t = nmk m d H t := by
  have hm := hO.1
  have h1 := hO.2.1 t ht.1 (by omega)
  have h2 := hO.2.2 t ht.1 (by omega)
  have h3 := mk_lt hm (fun b => rel d t b)
  have h4 := mk_p2 hm (fun b => rel d t b)
  unfold nmk
  rw [h t ht.1 ht.2, smk_congr hm ⟨h1.1, h2⟩ h, smk_congr (s := upS m d t) hm ⟨h3.1, h4⟩ h]
def lkM (n : Int) (F H : XX) : Bool := allB n (fun t => decide (sumZ n (fun s => B (decide (F s = F t))) = sumZ n (fun s => B (decide (H s = F t)))))
def imR (m : Int) (d e : Int → Int) : Option XX := if lkM m (mkS m d 3) (mkS m e 3) then dfs m m (gmP d e (mkS m d 3) (mkS m e 3)) else none
def grR (m : Int) (d : Int → Int) : Option XX := dfs m m (grP m d)
theorem srN_nrm {W n : Int} {P : XX → Int → Int → Bool} (hP : locP P) {k : Nat} {t : Int} {x y : XX} (hk : t + k = n) (h : ∀ i, 0 ≤ i → i < t → x i = y i) : srN W n P k t x = srN W n P k t y := srN_congr hP k t x y hk h
