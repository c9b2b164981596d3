/-! ===== the hand, acts, sheets ===== -/
def ranM (M : MM) (b : Int) : MM := st2 (st2 M 45 (M 36 14) b) 36 14 (M 36 14 + 1)
def rnL (M : MM) (l : List Int) : MM := l.foldl ranM M
theorem ranM_x {M : MM} {b x : Int} (h : x ≠ 36 ∧ x ≠ 45) : ranM M b x = M x := by
  unfold ranM
  rw [st2_ne _ h.1, st2_ne _ h.2]
theorem ranM_14 (M : MM) (b : Int) : ranM M b 36 14 = M 36 14 + 1 := by simp [ranM, st2]
theorem ranM_36 (M : MM) (b : Int) {k : Int} (hk : k ≠ 14) : ranM M b 36 k = M 36 k := by simp [ranM, st2, hk]
theorem rnL_x {x : Int} (h : x ≠ 36 ∧ x ≠ 45) : ∀ (l : List Int) (M : MM), rnL M l x = M x := by
  intro l
  induction l with
  | nil => intro M; rfl
  | cons b l ih => intro M; show rnL (ranM M b) l x = M x; rw [ih, ranM_x h]
theorem rnL_36 {k : Int} (hk : k ≠ 14) : ∀ (l : List Int) (M : MM), rnL M l 36 k = M 36 k := by
  intro l
  induction l with
  | nil => intro M; rfl
  | cons b l ih => intro M; show rnL (ranM M b) l 36 k = M 36 k; rw [ih, ranM_36 M b hk]
theorem rnL_14 : ∀ (l : List Int) (M : MM), rnL M l 36 14 = M 36 14 + l.length := by
  intro l
  induction l with
  | nil => intro M; show M 36 14 = M 36 14 + ((0 : Nat) : Int); omega
  | cons b l ih => intro M; show rnL (ranM M b) l 36 14 = _; rw [ih, ranM_14, List.length_cons]; omega
theorem rnL_app (M : MM) (l l' : List Int) : rnL (rnL M l) l' = rnL M (l ++ l') := by unfold rnL; rw [List.foldl_append]
theorem mf_14 : ∀ q ∈ mfL, q.1 ≠ 45 ∧ (q.1 = 36 → q.2.1 ≠ 14) := by decide
theorem WF.rn {K : KK} {M : MM} (h : WF K M) (l : List Int) : WF K (rnL M l) := h.of (fun q hq => by
  have hn := mf_14 q hq
  by_cases h36 : q.1 = 36
  · rw [h36, rnL_36 (hn.2 h36)]
  · rw [rnL_x ⟨h36, hn.1⟩])
theorem AT.rn {K : KK} {M : MM} {o m : Int} {d : Int → Int} (h : AT K M o m d) (l : List Int) : AT K (rnL M l) o m d := by
  have e38 : rnL M l 38 = M 38 := rnL_x (by decide) l M
  have e39 : rnL M l 39 = M 39 := rnL_x (by decide) l M
  have e36 : rnL M l 36 0 = M 36 0 := rnL_36 (by decide) l M
  refine ⟨⟨h.1.1.rn l, by rw [e36]; exact h.1.2.1, by rw [e38]; exact h.1.2.2.1, by rw [e39]; exact h.1.2.2.2.1, by rw [e38, e39]; exact h.1.2.2.2.2⟩, h.2.1, by rw [e38]; exact h.2.2.1, by unfold dM; rw [e39]; exact h.2.2.2⟩
def lookR (kd m p x : Int) : Int := if kd = 5 then wr (wr (wr (x + p) + 1) * 2) else if kd ≠ 0 ∧ kd ≠ 4 then wr (wr (x + p) + 1) else if kd = 4 then wr (wr (x - m) + p) else wr (x + p)
def lookT (kd : Int) : List Int := if kd = 5 then [61, 20, 10] else if kd ≠ 0 ∧ kd ≠ 4 then [20, 10] else if kd = 4 then [50, 10] else [10]
def partR (kd m p x : Int) : Int := if kd = 3 then wr (wr (lookR kd m p (if kd = 5 then wr (x + 2) else x) * m) - p) else wr (lookR kd m p (if kd = 5 then wr (x + 2) else x) * m)
def partT (kd : Int) : List Int := (if kd = 3 then [40] else []) ++ (if kd = 5 then [60] else []) ++ [11] ++ lookT kd
def joinR (kd p k x : Int) : Int := if kd = 3 then wr (wr (wr (x - k) * 3) + wr (wr (x + p) + 1)) else if kd = 2 then wr (wr (x - k) * 3) else wr (x - k)
def joinT (kd : Int) : List Int := (if kd = 3 then [41] else []) ++ (if kd = 2 ∨ kd = 3 then [30] else []) ++ [12] ++ (if kd = 3 then [20, 10] else [])
def otR (kd m p k x : Int) : Int := zxor (partR kd m p x) (joinR kd p k x)
def otT (kd : Int) : List Int := [13] ++ partT kd ++ joinT kd
def tellR (kd m p k x : Int) : Int := if kd ≠ 0 ∧ kd ≠ 4 then otR kd m p k (wr (x * 2)) else if kd = 4 then wr (joinR kd p k x + otR kd m p k x) else otR kd m p k x
def tellT (kd : Int) : List Int := if kd ≠ 0 ∧ kd ≠ 4 then [21] ++ otT kd else if kd = 4 then [51] ++ joinT kd ++ otT kd else otT kd
theorem lookT_len (kd : Int) : (lookT kd).length ≤ 3 := by unfold lookT; split; decide; split; decide; split <;> decide
theorem partT_len (kd : Int) : (partT kd).length ≤ 6 := by
  have := lookT_len kd
  unfold partT
  simp only [List.length_append]
  split <;> split <;> simp <;> omega
theorem joinT_len (kd : Int) : (joinT kd).length ≤ 5 := by
  unfold joinT
  simp only [List.length_append]
  split <;> split <;> simp
theorem otT_len (kd : Int) : (otT kd).length ≤ 12 := by
  have := partT_len kd
  have := joinT_len kd
  unfold otT
  simp only [List.length_append, List.length_cons, List.length_nil]
  omega
/-- the first place of a thing ahead of which one that is below it lacks -/
def lkN (d x : Int → Int) : Nat → Int → Int → Int
  | 0, _, _ => -1
  | f + 1, k, had => if sub (d (x k)) had then lkN d x f (k + 1) (zor had (zshl 1 (x k))) else k
def lkR (h : Int) (d x : Int → Int) (k had : Int) : Int := lkN d x (h - k).toNat k had
theorem lkR_s {h k : Int} (hk : k < h) (d x : Int → Int) (had : Int) : lkR h d x k had = if sub (d (x k)) had then lkR h d x (k + 1) (zor had (zshl 1 (x k))) else k := by
  unfold lkR
  rw [show (h - k).toNat = (h - (k + 1)).toNat + 1 by omega]
  rfl
theorem lkR_e {h k : Int} (hk : h ≤ k) (d x : Int → Int) (had : Int) : lkR h d x k had = -1 := by
  unfold lkR
  rw [show (h - k).toNat = 0 by omega]
  rfl
/-- the hand: as many different things of its order -/
def HV (M : MM) : Prop := (0 ≤ M 36 5 ∧ M 36 5 ≤ 10) ∧ (0 < M 36 5 → 0 ≤ M 36 4 ∧ M 36 4 < M 36 0) ∧ (∀ k, 0 ≤ k → k < M 36 5 → 0 ≤ M 40 k ∧ M 40 k < M 38 (M 36 4)) ∧ ∀ j k, 0 ≤ j → j < k → k < M 36 5 → M 40 j ≠ M 40 k
/-- different numbers below m are m at most -/
theorem pigeon : ∀ (m h : Nat) (f : Nat → Nat), (∀ k, k < h → f k < m) → (∀ j k, j < k → k < h → f j ≠ f k) → h ≤ m := by
  intro m
  induction m with
  | zero => intro h f hf _; rcases Nat.eq_zero_or_pos h with q | q; omega; have := hf 0 q; omega
  | succ m ih =>
    intro h f hf hd
    rcases Nat.eq_zero_or_pos h with q | q
    · omega
    · by_cases hex : ∃ i, i < h ∧ f i = m
      · obtain ⟨i, hi, hfi⟩ := hex
        have := ih (h - 1) (fun k => if k < i then f k else f (k + 1)) (fun k hk => by
          try dsimp only
          split
          · rename_i hki
            have h1 := hf k (by omega)
            have h2 := hd k i hki hi
            omega
          · rename_i hki
            have h1 := hf (k + 1) (by omega)
            have h2 := hd i (k + 1) (by omega) (by omega)
            omega) (fun j k hjk hk => by
          try dsimp only
          split <;> split
          · exact hd j k hjk (by omega)
          · exact hd j (k + 1) (by omega) (by omega)
          · omega
          · exact hd (j + 1) (k + 1) (by omega) (by omega))
        omega
      · have := ih h f (fun k hk => by
          have h1 := hf k hk
          have h2 : f k ≠ m := fun q => hex ⟨k, hk, q⟩
          omega) hd
        omega
def inH (M : MM) (t : Int) : Bool := !allB (M 36 5) (fun k => !decide (M 40 k = t))
def hadH (M : MM) (o t : Int) : Bool := (decide (0 < M 36 5) && decide (M 36 4 ≠ o)) || inH M t
theorem HV.lt {K : KK} {M : MM} (hm : MO K M) (h : HV M) {o t : Int} (ht : isTh M o t = true) (hn : hadH M o t = false) : M 36 5 < 10 := by
  have hq := isTh_of hm ht
  by_cases h0 : 0 < M 36 5
  · unfold hadH inH at hn
    simp only [Bool.or_eq_false_iff, Bool.and_eq_false_iff, decide_eq_false_iff_not, Bool.not_eq_false'] at hn
    have ho : M 36 4 = o := by rcases hn.1 with q | q; omega; simpa using q
    have ha := allB_iff.mp hn.2
    have hs := hm.sz hq.1
    have := pigeon (M 38 o).toNat ((M 36 5).toNat + 1) (fun k => if k < (M 36 5).toNat then (M 40 (k : Int)).toNat else t.toNat) (fun k hk => by
      try dsimp only
      split
      · have := h.2.2.1 k (by omega) (by omega); rw [ho] at this; omega
      · omega) (fun j k hjk hk => by
      try dsimp only
      rw [if_pos (by omega)]
      have h1 := h.2.2.1 j (by omega) (by omega)
      split
      · have h2 := h.2.2.1 k (by omega) (by omega)
        have h3 := h.2.2.2 j k (by omega) (by omega) (by omega)
        omega
      · have h3 := ha j (by omega) (by omega)
        simp at h3
        omega)
    omega
  · omega
/-- telling pairs off a sheet -/
def goB (M : MM) (o a b : Int) : Bool := isTh M o a && isTh M o b && decide (a ≠ b) && !rel (dM M o) b a
def prK (o s : Int) : Nat → Int → MM → Int
  | 0, k, _ => k
  | f + 1, k, M => if goB M o (M 44 (20 * s + 2 * k)) (M 44 (20 * s + 2 * k + 1)) then prK o s f (k + 1) (tlM M o (M 44 (20 * s + 2 * k)) (M 44 (20 * s + 2 * k + 1))) else k
def prM (o s : Int) : Nat → Int → MM → MM
  | 0, _, M => M
  | f + 1, k, M => if goB M o (M 44 (20 * s + 2 * k)) (M 44 (20 * s + 2 * k + 1)) then prM o s f (k + 1) (tlM M o (M 44 (20 * s + 2 * k)) (M 44 (20 * s + 2 * k + 1))) else M
theorem MO.fl {K : KK} {M : MM} (h : MO K M) {k v : Int} (hk : k ≠ 0) (hn : nfx 36 k = true) : MO K (st2 M 36 k v) := by
  refine ⟨WF.fld 36 k hn h.1, ?_, by rw [st2_ne M (by decide)]; exact h.2.2.1, by rw [st2_ne M (by decide)]; exact h.2.2.2.1, by rw [st2_ne M (show (38 : Int) ≠ 36 by decide), st2_ne M (show (39 : Int) ≠ 36 by decide)]; exact h.2.2.2.2⟩
  have : st2 M 36 k v 36 0 = M 36 0 := by unfold st2; rw [if_pos rfl, if_neg (fun q => hk q.symm)]
  rw [this]; exact h.2.1
theorem MO.tl {K : KK} {M : MM} (h : MO K M) {o a b : Int} (ho : 0 ≤ o ∧ o < 8) (ha : 0 ≤ a ∧ a < M 38 o) : MO K (tlM M o a b) :=
  (h.set39 (tlF_c h ho ha (h.sz ho).2)).fl (by decide) rfl
/-- sheets within their bounds -/
def SV (M : MM) : Prop := ∀ s, 0 ≤ s → s < 4 → 0 ≤ M 43 s ∧ M 43 s ≤ 20
theorem tlM_x {M : MM} {o a b x : Int} (h : x ≠ 36 ∧ x ≠ 39) : tlM M o a b x = M x := by unfold tlM; rw [st2_ne _ h.1, setA_ne _ h.2]
theorem cop_b {M : MM} {s : Int} (n : Int) (h : ∀ k, inR (M 44 k)) (hc : ∀ i, 0 ≤ i → i < 80 → 0 ≤ M 44 i ∧ M 44 i ≤ 100) (hs : 0 ≤ s ∧ s < 4) (hn : 0 ≤ n ∧ n ≤ 4) : 0 ≤ sumZ n (fun k => M 44 (20 * s + (k + 1))) ∧ sumZ n (fun k => M 44 (20 * s + (k + 1))) ≤ 400 := by
  have := sumZ_b (f := fun k => M 44 (20 * s + (k + 1))) (L := 100) hn.1 (fun c h0 h1 => hc _ (by omega) (by omega))
  omega
def actR (a kd m p k x : Int) : Int := if a = 0 then lookR kd m p x else if a = 1 then partR kd m p x else if a = 2 then joinR kd p k x else tellR kd m p k x
def actT (a kd : Int) : List Int := if a = 0 then lookT kd else if a = 1 then partT kd else if a = 2 then joinT kd else tellT kd
theorem AT.fl {K : KK} {M : MM} {o m : Int} {d : Int → Int} (h : AT K M o m d) {k v : Int} (hk : k ≠ 0) (hn : nfx 36 k = true) : AT K (st2 M 36 k v) o m d :=
  ⟨h.1.fl hk hn, h.2.1, by rw [st2_ne M (by decide)]; exact h.2.2.1, by unfold dM; rw [st2_ne M (by decide)]; exact h.2.2.2⟩
def wasLay (M : MM) (o t : Int) : MM := st2 (st2 (st2 (st2 M 36 4 o) 40 (M 36 5) t) 36 5 (M 36 5 + 1)) 36 12 0
def shM (M : MM) (s so q c : Int) : MM := setA (st2 (st2 M 42 s so) 43 s q) 44 (fun j => if 20 * s ≤ j ∧ j < 20 * s + c then 0 else M 44 j)
theorem shM_0 (M : MM) (s so q : Int) : st2 (st2 M 42 s so) 43 s q = shM M s so q 0 := by
  funext x j
  unfold shM setA
  dsimp only
  split
  · rename_i h
    rw [if_neg (by omega), h]
    simp [st2]
  · rfl
theorem shM_s (M : MM) (s so q : Int) {c : Int} (hc : 0 ≤ c) : st2 (shM M s so q c) 44 (20 * s + c) 0 = shM M s so q (c + 1) := by
  unfold shM
  rw [st2_setA]
  congr 1
  funext j
  by_cases h1 : j = 20 * s + c
  · rw [if_pos h1, if_pos (by omega)]
  · rw [if_neg h1]
    by_cases h2 : 20 * s ≤ j ∧ j < 20 * s + c
    · rw [if_pos h2, if_pos (by omega)]
    · rw [if_neg h2, if_neg (by omega)]
theorem WF.sh {K : KK} {M : MM} (h : WF K M) {s so q c : Int} : WF K (shM M s so q c) := WF.setA 44 rfl (WF.arr 43 rfl (WF.arr 42 rfl h))
def kOf (kd k : Int) : Bool := decide (k = 0) || decide (k = kd) || (decide (k = 1) && (decide (kd ≠ 0) && decide (kd ≠ 4))) || (decide (k = 2) && decide (kd = 3))
theorem prM_x {o s x : Int} (h : x ≠ 36 ∧ x ≠ 39) : ∀ (f : Nat) (k : Int) (M : MM), prM o s f k M x = M x := by
  intro f
  induction f with
  | zero => intro k M; rfl
  | succ f ih =>
    intro k M
    show (if _ then _ else _ : MM) x = _
    split
    · rw [ih, tlM_x h]
    · rfl
theorem goB_of {K : KK} {M : MM} (hm : MO K M) {o a b : Int} (h : goB M o a b = true) : (0 ≤ o ∧ o < 8) ∧ (0 ≤ a ∧ a < M 38 o) ∧ (0 ≤ b ∧ b < 10) ∧ b < M 38 o := by
  unfold goB at h
  simp only [Bool.and_eq_true] at h
  have h1 := isTh_of hm h.1.1.1
  have h2 := isTh_of hm h.1.1.2
  exact ⟨h1.1, ⟨h1.2.1.1, h1.2.2.1⟩, h2.2.1, h2.2.2.1⟩
theorem prK_s (o s : Int) (f : Nat) (k : Int) (M : MM) : prK o s (f + 1) k M = if goB M o (M 44 (20 * s + 2 * k)) (M 44 (20 * s + 2 * k + 1)) then prK o s f (k + 1) (tlM M o (M 44 (20 * s + 2 * k)) (M 44 (20 * s + 2 * k + 1))) else k := rfl
theorem prM_s (o s : Int) (f : Nat) (k : Int) (M : MM) : prM o s (f + 1) k M = if goB M o (M 44 (20 * s + 2 * k)) (M 44 (20 * s + 2 * k + 1)) then prM o s f (k + 1) (tlM M o (M 44 (20 * s + 2 * k)) (M 44 (20 * s + 2 * k + 1))) else M := rfl
