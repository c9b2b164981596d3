/-! ===== the class's searches, more ===== -/
theorem srN_P {W n : Int} {P Q : XX → Int → Int → Bool} (h : ∀ (x : XX) t c, 0 ≤ t → t < n → 0 ≤ c → c < W → P x t c = Q x t c) : ∀ (k : Nat) (t : Int) (x : XX), t + k = n → 0 ≤ t → srN W n P k t x = srN W n Q k t x := by
  intro k
  induction k with
  | zero => intro t x _ _; rfl
  | succ k ih =>
    intro t x ht h0
    refine tryC_congr _ _ (fun e h1 h2 => ?_)
    show (if P x t e then srN W n P k (t + 1) (up x t e) else none) = (if Q x t e then srN W n Q k (t + 1) (up x t e) else none)
    rw [h x t e h0 (by omega) h1 (by omega), ih (t + 1) (up x t e) (by omega) (by omega)]
theorem gm_top {m : Int} {d e : Int → Int} {F H x : XX} (hm : 0 ≤ m) (hF : ∀ t, 0 ≤ t → t < m → F t = mkS m d 3 t) (hH : ∀ t, 0 ≤ t → t < m → H t = mkS m e 3 t) : srN m m (gmP d e F H) m.toNat 0 x = dfs m m (gmP d e (mkS m d 3) (mkS m e 3)) := by
  unfold dfs
  rw [srN_congr (gmP_loc d e F H) m.toNat 0 x (fun _ => 0) (by omega) (fun i h0 h1 => by omega)]
  refine srN_P (fun y t c h0 h1 h2 h3 => ?_) m.toNat 0 _ (by omega) (by omega)
  unfold gmP
  rw [hF t h0 h1, hH c h2 h3]
theorem lkM_congr {m : Int} {F F' H H' : XX} (hF : ∀ t, 0 ≤ t → t < m → F t = F' t) (hH : ∀ t, 0 ≤ t → t < m → H t = H' t) : lkM m F H = lkM m F' H' := by
  unfold lkM
  refine allB_congr (fun t h0 h1 => ?_)
  rw [sumZ_congr (f := fun s => B (decide (F s = F t))) (g := fun s => B (decide (F' s = F' t))) (fun s s0 s1 => by rw [hF s s0 s1, hF t h0 h1]), sumZ_congr (f := fun s => B (decide (H s = F t))) (g := fun s => B (decide (H' s = F' t))) (fun s s0 s1 => by rw [hH s s0 s1, hF t h0 h1])]
theorem mkS_s {m : Int} {d : Int → Int} {k : Int} (hk : 0 ≤ k) {t : Int} (ht : 0 ≤ t ∧ t < m) : mkS m d (k + 1) t = nmk m d (mkS m d k) t := by
  unfold mkS
  rw [foldG_s hk]
  exact if_pos ht
theorem mkS_0 {m : Int} {d : Int → Int} {t : Int} (ht : 0 ≤ t ∧ t < m) : mkS m d 0 t = 1 := if_pos ht
theorem plc_at {m : Int} {x : XX} {i : Int} (hi : 0 ≤ i ∧ i < m) (h : ∀ j, 0 ≤ j → j < m → x j = x i → j = i) : plc m x (x i) = i := by
  unfold plc
  rw [rs_first (i := i) (by rw [if_pos rfl]; omega) (fun j h0 h1 h2 => if_neg (fun he => h2 (h j h0 h1 he))) hi, if_pos rfl]
theorem gr_top {m : Int} {d : Int → Int} {x : XX} (hm : 0 ≤ m) : srN m m (grP m d) m.toNat 0 x = grR m d := srN_congr (grP_loc m d) m.toNat 0 x (fun _ => 0) (by omega) (fun i h0 h1 => by omega)
theorem ch_top {m : Int} {d : Int → Int} {x : XX} (hm : 0 ≤ m) : srN (cnt (wide m d)) m (chP d (cnt (wide m d))) m.toNat 0 x = chR m d := srN_congr (chP_loc d _) m.toNat 0 x (fun _ => 0) (by omega) (fun i h0 h1 => by omega)
theorem sumF_false {n : Int} {P : Int → Bool} (h : ∀ i, 0 ≤ i → i < n → P i = false) : sumZ n (fun i => B (P i)) = 0 := sumZ_0f (fun i h0 h1 => by rw [h i h0 h1]; rfl)
theorem addM_eq {M : MM} {l x : Int} {ln : Nat} (h : M l 1 < ln) : addM M l x ln = st2 (st2 M (l + 1) (M l 1) x) l 1 (M l 1 + 1) := if_pos h
theorem hadS_p3 {m : Int} {x : XX} (hm : 0 ≤ m ∧ m ≤ 10) : ∀ k : Nat, (k : Int) ≤ m → (∀ i : Int, 0 ≤ i → i < k → 0 ≤ x i ∧ x i < m) → 0 ≤ hadS x k ∧ hadS x k < p2 m := by
  have hp := p2_b hm
  intro k
  induction k with
  | zero => intro _ _; show (0 : Int) ≤ 0 ∧ (0 : Int) < p2 m; omega
  | succ k ih =>
    intro hk hx
    rw [show ((k + 1 : Nat) : Int) = (k : Int) + 1 by omega, hadS_s (by omega)]
    exact plus_in hm (ih (by omega) (fun i h0 h1 => hx i h0 (by omega))) (hx k (by omega) (by omega))
