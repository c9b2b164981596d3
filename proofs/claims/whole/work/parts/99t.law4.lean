/-! ===== all calls, side by side ===== -/
theorem or_of {M : MM} {o : Int} (h : isOr M o = true) : 0 ≤ o ∧ o < M 36 0 := by
  unfold isOr at h; rw [Bool.and_eq_true, decide_eq_true_eq, decide_eq_true_eq] at h; exact h
theorem th_of {K : KK} {M : MM} (h : LK K M) {o t : Int} (ht : isTh M o t = true) : PO (M 38 o) (dM M o) ∧ (0 ≤ t ∧ t < M 38 o) := by
  have hq := isTh_of h.mo ht
  exact ⟨h.po (or_of hq.2.2.2), hq.2.1.1, hq.2.2.1⟩
theorem sx_e {M M1 : MM} (hs : sx M M1) : (M1 36 = M 36 ∧ M1 37 = M 37 ∧ M1 38 = M 38 ∧ M1 39 = M 39 ∧ M1 40 = M 40) ∧ (∀ o, isOr M1 o = isOr M o) ∧ (∀ o a, isTh M1 o a = isTh M o a) ∧ ∀ o, dM M1 o = dM M o := by
  have e36 := hs.1 36 (by omega)
  have e38 := hs.1 38 (by omega)
  have e39 := hs.1 39 (by omega)
  exact ⟨⟨e36, hs.1 37 (by omega), e38, e39, hs.1 40 (by omega)⟩, fun o => by unfold isOr; rw [e36], fun o a => isTh_e (by rw [e36]) e38 o a, fun o => dM_e e39 o⟩
theorem unl_x {m : Int} {x x' y : Int → Int} (h : ∀ i, 0 ≤ i → i < m → x i = x' i) : unl m x y = unl m x' y := by
  unfold unl
  refine sumZ_congr (fun i i0 i1 => sumZ_congr (fun j j0 j1 => ?_))
  rw [h i i0 i1, h j j0 (by omega)]
theorem zshr_0 {m s : Int} (hm : 0 ≤ m ∧ m ≤ 10) (hs : 0 ≤ s) (hr : inR s) : zshr s m = 0 ↔ s < p2 m := by
  have hp := p2_b hm
  rw [zshr_nat ⟨hs, hr.2⟩ ⟨hm.1, by omega⟩, Nat.shiftRight_eq_div_pow, p2_eq hm]
  have h2 : 0 < 2 ^ m.toNat := Nat.two_pow_pos _
  constructor
  · intro h
    have h3 : s.toNat / 2 ^ m.toNat = 0 := by omega
    have := (Nat.div_eq_zero_iff_lt h2).mp h3
    omega
  · intro h
    have h3 : s.toNat / 2 ^ m.toNat = 0 := (Nat.div_eq_zero_iff_lt h2).mpr (by omega)
    omega
theorem fgR_e {M M1 : MM} {w q o s : Int} (h : ∀ x : Int, x ≠ 0 → M1 x = M x) : fgR M1 w q o s = fgR M w q o s := by
  unfold fgR isOr
  rw [h 36 (by decide), h 37 (by decide), h 42 (by decide), h 43 (by decide), h 44 (by decide)]
theorem fgS_e {M M1 : MM} {w q o s : Int} (h : ∀ x : Int, x ≠ 0 → M1 x = M x) : fgS M1 w q o s = fgS M w q o s := by
  unfold fgS isOr
  rw [h 36 (by decide), h 37 (by decide), h 42 (by decide), h 43 (by decide)]
section SEMA
variable {n : Nat} {K : KK} {M : MM}
theorem part_c (h : LK K M) {o s : Int} (hr : inR s) : (isOr M o && decide (0 ≤ s) && decide (zshr s (M 38 o) = 0)) = true ↔ isOr M o = true ∧ (0 ≤ s ∧ s < p2 (M 38 o)) := by
  rw [Bool.and_eq_true, Bool.and_eq_true, decide_eq_true_eq, decide_eq_true_eq]
  constructor
  · rintro ⟨⟨h1, h2⟩, h3⟩
    exact ⟨h1, h2, (zshr_0 (h.po (or_of h1)).1.1 h2 hr).mp h3⟩
  · rintro ⟨h1, h2, h3⟩
    exact ⟨⟨h1, h2⟩, (zshr_0 (h.po (or_of h1)).1.1 h2 hr).mpr h3⟩

theorem sem_c_order (h : LK K M) (hn : 55 ≤ n) (hf : ∀ a : Int, (K a).1 ≠ 9 → 0 ≤ a ∧ a < n) {q : Int} : SEM n K M 0 (makQ n K M ((0 ≤ q ∧ q ≤ 10) ∧ M 36 0 < 8) (if 0 ≤ q ∧ q ≤ 10 then 2 else 1) 4 q (fun _ _ => false)) (fun (n : Nat) (K : KK) (M : MM) => PQ (some (0, if 0 ≤ q ∧ q ≤ 10 then (if M 36 0 < 8 then M 36 0 else -1) else -1)) n K (if 0 ≤ q ∧ q ≤ 10 then (if M 36 0 < 8 then crM M 0 q (fun _ => 0) else st2 M 36 12 2) else st2 M 36 12 1)) := by
  refine sem_mk (k := 0) (f := fun _ => 0) h hf hn ⟨rfl, by decide, by decide⟩ (fun hc => ⟨hc.2, mks_order hc.1⟩) ?_ ?_
  · intro n1 K1 M1 he hc
    have e36 := he 36 (by omega) (by omega)
    have e38 := he 38 (by omega) (by omega)
    have e39 := he 39 (by omega) (by omega)
    have i : ∀ o, isOr M1 o = isOr M o := fun o => by unfold isOr; rw [e36]
    have dd : ∀ o, dM M1 o = dM M o := fun o => dM_e e39 o
    simp only [e36, e38, i, dd]
    rw [if_pos hc.1, if_pos hc.2, if_pos hc.1, if_pos hc.2]
    exact ⟨rfl, rfl⟩
  · intro n1 K1 M1 he hc
    have e36 := he 36 (by omega) (by omega)
    have e38 := he 38 (by omega) (by omega)
    have e39 := he 39 (by omega) (by omega)
    have i : ∀ o, isOr M1 o = isOr M o := fun o => by unfold isOr; rw [e36]
    have dd : ∀ o, dM M1 o = dM M o := fun o => dM_e e39 o
    simp only [e36, e38, i, dd]
    by_cases hq : 0 ≤ q ∧ q ≤ 10
    · have h8 : ¬ M 36 0 < 8 := fun z => hc ⟨hq, z⟩
      rw [if_pos hq, if_neg h8, if_pos hq, if_neg h8, if_pos hq]
      exact ⟨rfl, rfl⟩
    · rw [if_neg hq, if_neg hq, if_neg hq]
      exact ⟨rfl, rfl⟩
theorem sem_c_pair (h : LK K M) (hn : 55 ≤ n) {o a b : Int} : SEM n K M 0 (paC n K M o a b) (fun (n : Nat) (K : KK) (M : MM) => paQ M o a b n K) := sem_pair h hn
theorem sem_c_round (h : LK K M) (hn : 55 ≤ n) {i : Int} : SEM n K M 0 (PQ (some (0, if 0 ≤ i ∧ i < M 36 7 then M 41 i else -1)) n K (M)) (fun (n : Nat) (K : KK) (M : MM) => PQ (some (0, if 0 ≤ i ∧ i < M 36 7 then M 41 i else -1)) n K (M)) := sem_pp h hn rfl
theorem sem_c_stack (h : LK K M) (hn : 55 ≤ n) (hf : ∀ a : Int, (K a).1 ≠ 9 → 0 ≤ a ∧ a < n) {o p : Int} : SEM n K M 0 (makQ n K M (((isOr M o = true) ∧ (isOr M p = true)) ∧ M 36 0 < 8 ∧ M 38 o + M 38 p ≤ 10) (if (isOr M o = true) ∧ (isOr M p = true) then 2 else 1) 9 (M 38 o + M 38 p) (fun x y => (cpX 0 (M 38 o) (dM M o) x y || cpX (M 38 o) (M 38 p) (dM M p) x y) || dbX (M 38 o) (M 38 o + M 38 p) (fun _ b => decide (M 38 o ≤ b)) (fun a _ => a) (fun _ b => b) x y)) (fun (n : Nat) (K : KK) (M : MM) => PQ (some (0, if isOr M o && isOr M p then (if M 36 0 < 8 ∧ M 38 o + M 38 p ≤ 10 then M 36 0 else -1) else -1)) n K (if isOr M o && isOr M p then (if M 36 0 < 8 ∧ M 38 o + M 38 p ≤ 10 then crM M (if true then 1 else 2) (M 38 o + M 38 p) (fun b => if b < M 38 o + M 38 p then sbF (M 38 o) (dM M o) (dM M p) true b else 0) else st2 M 36 12 2) else st2 M 36 12 1)) := by
  refine sem_mk (k := 1) (f := fun b => if b < M 38 o + M 38 p then sbF (M 38 o) (dM M o) (dM M p) true b else 0) h hf hn ⟨rfl, by decide, by decide⟩ (fun hc => ⟨hc.2.1, mks_stack (h.po (or_of hc.1.1)) (h.po (or_of hc.1.2)) hc.2.2⟩) ?_ ?_
  · intro n1 K1 M1 he hc
    have e36 := he 36 (by omega) (by omega)
    have e38 := he 38 (by omega) (by omega)
    have e39 := he 39 (by omega) (by omega)
    have i : ∀ o, isOr M1 o = isOr M o := fun o => by unfold isOr; rw [e36]
    have dd : ∀ o, dM M1 o = dM M o := fun o => dM_e e39 o
    simp only [e36, e38, i, dd]
    have hb : (isOr M o && isOr M p) = true := by rw [hc.1.1, hc.1.2]; rfl
    rw [if_pos hb, if_pos hc.2, if_pos hb, if_pos hc.2]
    exact ⟨rfl, rfl⟩
  · intro n1 K1 M1 he hc
    have e36 := he 36 (by omega) (by omega)
    have e38 := he 38 (by omega) (by omega)
    have e39 := he 39 (by omega) (by omega)
    have i : ∀ o, isOr M1 o = isOr M o := fun o => by unfold isOr; rw [e36]
    have dd : ∀ o, dM M1 o = dM M o := fun o => dM_e e39 o
    simp only [e36, e38, i, dd]
    by_cases hq : isOr M o = true ∧ isOr M p = true
    · have hb : (isOr M o && isOr M p) = true := by rw [hq.1, hq.2]; rfl
      have h8 : ¬ (M 36 0 < 8 ∧ M 38 o + M 38 p ≤ 10) := fun z => hc ⟨hq, z⟩
      rw [if_pos hb, if_neg h8, if_pos hb, if_neg h8, if_pos hq]
      exact ⟨rfl, rfl⟩
    · have hb : ¬ (isOr M o && isOr M p) = true := by rw [Bool.and_eq_true]; exact hq
      rw [if_neg hb, if_neg hb, if_neg hq]
      exact ⟨rfl, rfl⟩
theorem sem_c_beside (h : LK K M) (hn : 55 ≤ n) (hf : ∀ a : Int, (K a).1 ≠ 9 → 0 ≤ a ∧ a < n) {o p : Int} : SEM n K M 0 (makQ n K M (((isOr M o = true) ∧ (isOr M p = true)) ∧ M 36 0 < 8 ∧ M 38 o + M 38 p ≤ 10) (if (isOr M o = true) ∧ (isOr M p = true) then 2 else 1) 0 (M 38 o + M 38 p) (fun x y => cpX 0 (M 38 o) (dM M o) x y || cpX (M 38 o) (M 38 p) (dM M p) x y)) (fun (n : Nat) (K : KK) (M : MM) => PQ (some (0, if isOr M o && isOr M p then (if M 36 0 < 8 ∧ M 38 o + M 38 p ≤ 10 then M 36 0 else -1) else -1)) n K (if isOr M o && isOr M p then (if M 36 0 < 8 ∧ M 38 o + M 38 p ≤ 10 then crM M 2 (M 38 o + M 38 p) (fun b => if b < M 38 o + M 38 p then sbF (M 38 o) (dM M o) (dM M p) false b else 0) else st2 M 36 12 2) else st2 M 36 12 1)) := by
  refine sem_mk (k := 2) (f := fun b => if b < M 38 o + M 38 p then sbF (M 38 o) (dM M o) (dM M p) false b else 0) h hf hn ⟨rfl, by decide, by decide⟩ (fun hc => ⟨hc.2.1, mks_beside (h.po (or_of hc.1.1)) (h.po (or_of hc.1.2)) hc.2.2⟩) ?_ ?_
  · intro n1 K1 M1 he hc
    have e36 := he 36 (by omega) (by omega)
    have e38 := he 38 (by omega) (by omega)
    have e39 := he 39 (by omega) (by omega)
    have i : ∀ o, isOr M1 o = isOr M o := fun o => by unfold isOr; rw [e36]
    have dd : ∀ o, dM M1 o = dM M o := fun o => dM_e e39 o
    simp only [e36, e38, i, dd]
    have hb : (isOr M o && isOr M p) = true := by rw [hc.1.1, hc.1.2]; rfl
    rw [if_pos hb, if_pos hc.2, if_pos hb, if_pos hc.2]
    exact ⟨rfl, rfl⟩
  · intro n1 K1 M1 he hc
    have e36 := he 36 (by omega) (by omega)
    have e38 := he 38 (by omega) (by omega)
    have e39 := he 39 (by omega) (by omega)
    have i : ∀ o, isOr M1 o = isOr M o := fun o => by unfold isOr; rw [e36]
    have dd : ∀ o, dM M1 o = dM M o := fun o => dM_e e39 o
    simp only [e36, e38, i, dd]
    by_cases hq : isOr M o = true ∧ isOr M p = true
    · have hb : (isOr M o && isOr M p) = true := by rw [hq.1, hq.2]; rfl
      have h8 : ¬ (M 36 0 < 8 ∧ M 38 o + M 38 p ≤ 10) := fun z => hc ⟨hq, z⟩
      rw [if_pos hb, if_neg h8, if_pos hb, if_neg h8, if_pos hq]
      exact ⟨rfl, rfl⟩
    · have hb : ¬ (isOr M o && isOr M p) = true := by rw [Bool.and_eq_true]; exact hq
      rw [if_neg hb, if_neg hb, if_neg hq]
      exact ⟨rfl, rfl⟩
theorem sem_c_times (h : LK K M) (hn : 55 ≤ n) (hf : ∀ a : Int, (K a).1 ≠ 9 → 0 ≤ a ∧ a < n) {o p : Int} : SEM n K M 0 (makQ n K M (((isOr M o = true) ∧ (isOr M p = true)) ∧ M 36 0 < 8 ∧ M 38 o * M 38 p ≤ 10) (if (isOr M o = true) ∧ (isOr M p = true) then 2 else 1) 10 (M 38 o * M 38 p) (fun s t => exB (M 38 o) (fun a => exB (M 38 p) (fun b => dbX (M 38 o) (M 38 p) (fun v w => (decide (a = v) || rel (dM M o) a v) && (decide (b = w) || rel (dM M p) b w) && (decide (a ≠ v) || decide (b ≠ w))) (fun _ _ => a * M 38 p + b) (fun v w => v * M 38 p + w) s t)))) (fun (n : Nat) (K : KK) (M : MM) => PQ (some (0, if isOr M o && isOr M p then (if M 36 0 < 8 ∧ M 38 o * M 38 p ≤ 10 then M 36 0 else -1) else -1)) n K (if isOr M o && isOr M p then (if M 36 0 < 8 ∧ M 38 o * M 38 p ≤ 10 then crM M 3 (M 38 o * M 38 p) (dblF (M 38 o * M 38 p) (tmP (M 38 p) (dM M o) (dM M p))) else st2 M 36 12 2) else st2 M 36 12 1)) := by
  refine sem_mk (k := 3) (f := dblF (M 38 o * M 38 p) (tmP (M 38 p) (dM M o) (dM M p))) h hf hn ⟨rfl, by decide, by decide⟩ (fun hc => ⟨hc.2.1, mks_times (h.po (or_of hc.1.1)) (h.po (or_of hc.1.2)) hc.2.2⟩) ?_ ?_
  · intro n1 K1 M1 he hc
    have e36 := he 36 (by omega) (by omega)
    have e38 := he 38 (by omega) (by omega)
    have e39 := he 39 (by omega) (by omega)
    have i : ∀ o, isOr M1 o = isOr M o := fun o => by unfold isOr; rw [e36]
    have dd : ∀ o, dM M1 o = dM M o := fun o => dM_e e39 o
    simp only [e36, e38, i, dd]
    have hb : (isOr M o && isOr M p) = true := by rw [hc.1.1, hc.1.2]; rfl
    rw [if_pos hb, if_pos hc.2, if_pos hb, if_pos hc.2]
    exact ⟨rfl, rfl⟩
  · intro n1 K1 M1 he hc
    have e36 := he 36 (by omega) (by omega)
    have e38 := he 38 (by omega) (by omega)
    have e39 := he 39 (by omega) (by omega)
    have i : ∀ o, isOr M1 o = isOr M o := fun o => by unfold isOr; rw [e36]
    have dd : ∀ o, dM M1 o = dM M o := fun o => dM_e e39 o
    simp only [e36, e38, i, dd]
    by_cases hq : isOr M o = true ∧ isOr M p = true
    · have hb : (isOr M o && isOr M p) = true := by rw [hq.1, hq.2]; rfl
      have h8 : ¬ (M 36 0 < 8 ∧ M 38 o * M 38 p ≤ 10) := fun z => hc ⟨hq, z⟩
      rw [if_pos hb, if_neg h8, if_pos hb, if_neg h8, if_pos hq]
      exact ⟨rfl, rfl⟩
    · have hb : ¬ (isOr M o && isOr M p) = true := by rw [Bool.and_eq_true]; exact hq
      rw [if_neg hb, if_neg hb, if_neg hq]
      exact ⟨rfl, rfl⟩
theorem sem_c_held (h : LK K M) (hn : 55 ≤ n) (hf : ∀ a : Int, (K a).1 ≠ 9 → 0 ≤ a ∧ a < n) {o : Int} : SEM n K M 0 (makQ n K M ((isOr M o = true) ∧ M 36 0 < 8 ∧ lowNC (M 38 o) (dM M o) ≤ 10) (if isOr M o = true then 2 else 1) 2 (lowNC (M 38 o) (dM M o)) (dbX (lowNC (M 38 o) (dM M o)) (lowNC (M 38 o) (dM M o)) (fun a b => decide (a ≠ b) && sub (nth (p2 (M 38 o)) (wyP (M 38 o) (dM M o)) 0 a) (nth (p2 (M 38 o)) (wyP (M 38 o) (dM M o)) 0 b)) (fun a _ => a) (fun _ b => b))) (fun (n : Nat) (K : KK) (M : MM) => PQ (some (0, if isOr M o then (if M 36 0 < 8 ∧ lowN (M 38 o) (dM M o) ≤ 10 then M 36 0 else -1) else -1)) n K (if isOr M o then (if M 36 0 < 8 ∧ lowN (M 38 o) (dM M o) ≤ 10 then crM M 4 (lowN (M 38 o) (dM M o)) (dblF (lowN (M 38 o) (dM M o)) (hdP (M 38 o) (dM M o))) else st2 M 36 12 2) else st2 M 36 12 1)) := by
  by_cases ho : isOr M o = true
  · have hl := lowNC_eq (h.po (or_of ho))
    rw [hl]
    refine sem_mk (k := 4) (f := dblF (lowN (M 38 o) (dM M o)) (hdP (M 38 o) (dM M o))) h hf hn ⟨rfl, by decide, by decide⟩ (fun hc => ⟨hc.2.1, mks_held (h.po (or_of hc.1)) hc.2.2⟩) ?_ ?_
    · intro n1 K1 M1 he hc
      have e36 := he 36 (by omega) (by omega)
      have e38 := he 38 (by omega) (by omega)
      have e39 := he 39 (by omega) (by omega)
      have i : ∀ o, isOr M1 o = isOr M o := fun o => by unfold isOr; rw [e36]
      have dd : ∀ o, dM M1 o = dM M o := fun o => dM_e e39 o
      simp only [e36, e38, i, dd]
      rw [if_pos ho, if_pos hc.2, if_pos ho, if_pos hc.2]
      exact ⟨rfl, rfl⟩
    · intro n1 K1 M1 he hc
      have e36 := he 36 (by omega) (by omega)
      have e38 := he 38 (by omega) (by omega)
      have e39 := he 39 (by omega) (by omega)
      have i : ∀ o, isOr M1 o = isOr M o := fun o => by unfold isOr; rw [e36]
      have dd : ∀ o, dM M1 o = dM M o := fun o => dM_e e39 o
      simp only [e36, e38, i, dd]
      have h8 : ¬ (M 36 0 < 8 ∧ lowN (M 38 o) (dM M o) ≤ 10) := fun z => hc ⟨ho, z⟩
      rw [if_pos ho, if_neg h8, if_pos ho, if_neg h8, if_pos ho]
      exact ⟨rfl, rfl⟩
  · refine sem_mk (k := 4) (f := fun _ => 0) h hf hn ⟨rfl, by decide, by decide⟩ (fun hc => absurd hc.1 ho) (fun _ _ _ _ hc => absurd hc.1 ho) ?_
    intro n1 K1 M1 he hc
    have e36 := he 36 (by omega) (by omega)
    have e38 := he 38 (by omega) (by omega)
    have e39 := he 39 (by omega) (by omega)
    have i : ∀ o, isOr M1 o = isOr M o := fun o => by unfold isOr; rw [e36]
    have dd : ∀ o, dM M1 o = dM M o := fun o => dM_e e39 o
    simp only [e36, e38, i, dd]
    rw [if_neg ho, if_neg ho, if_neg ho]
    exact ⟨rfl, rfl⟩
theorem sem_c_row (h : LK K M) (hn : 55 ≤ n) (hf : ∀ a : Int, (K a).1 ≠ 9 → 0 ≤ a ∧ a < n) {q : Int} : SEM n K M 0 (makQ n K M ((0 ≤ q ∧ q ≤ 10) ∧ M 36 0 < 8) (if 0 ≤ q ∧ q ≤ 10 then 2 else 1) 5 q (fun x y => decide (x < y))) (fun (n : Nat) (K : KK) (M : MM) => PQ (some (0, if 0 ≤ q ∧ q ≤ 10 then (if M 36 0 < 8 then M 36 0 else -1) else -1)) n K (if 0 ≤ q ∧ q ≤ 10 then (if M 36 0 < 8 then crM M 5 q (fun b => if b < q then zshl 1 b - 1 else 0) else st2 M 36 12 2) else st2 M 36 12 1)) := by
  refine sem_mk (k := 5) (f := fun b => if b < q then zshl 1 b - 1 else 0) h hf hn ⟨rfl, by decide, by decide⟩ (fun hc => ⟨hc.2, mks_row hc.1⟩) ?_ ?_
  · intro n1 K1 M1 he hc
    have e36 := he 36 (by omega) (by omega)
    have e38 := he 38 (by omega) (by omega)
    have e39 := he 39 (by omega) (by omega)
    have i : ∀ o, isOr M1 o = isOr M o := fun o => by unfold isOr; rw [e36]
    have dd : ∀ o, dM M1 o = dM M o := fun o => dM_e e39 o
    simp only [e36, e38, i, dd]
    rw [if_pos hc.1, if_pos hc.2, if_pos hc.1, if_pos hc.2]
    exact ⟨rfl, rfl⟩
  · intro n1 K1 M1 he hc
    have e36 := he 36 (by omega) (by omega)
    have e38 := he 38 (by omega) (by omega)
    have e39 := he 39 (by omega) (by omega)
    have i : ∀ o, isOr M1 o = isOr M o := fun o => by unfold isOr; rw [e36]
    have dd : ∀ o, dM M1 o = dM M o := fun o => dM_e e39 o
    simp only [e36, e38, i, dd]
    by_cases hq : 0 ≤ q ∧ q ≤ 10
    · have h8 : ¬ M 36 0 < 8 := fun z => hc ⟨hq, z⟩
      rw [if_pos hq, if_neg h8, if_pos hq, if_neg h8, if_pos hq]
      exact ⟨rfl, rfl⟩
    · rw [if_neg hq, if_neg hq, if_neg hq]
      exact ⟨rfl, rfl⟩
theorem sem_c_dual (h : LK K M) (hn : 55 ≤ n) (hf : ∀ a : Int, (K a).1 ≠ 9 → 0 ≤ a ∧ a < n) {o : Int} : SEM n K M 0 (makQ n K M ((isOr M o = true) ∧ M 36 0 < 8) (if isOr M o = true then 2 else 1) 4 (M 38 o) (dbX (M 38 o) (M 38 o) (fun a b => rel (dM M o) a b) (fun _ b => b) (fun a _ => a))) (fun (n : Nat) (K : KK) (M : MM) => PQ (some (0, if isOr M o then (if M 36 0 < 8 then M 36 0 else -1) else -1)) n K (if isOr M o then (if M 36 0 < 8 then crM M 0 (M 38 o) (dblF (M 38 o) (fun c e => rel (dM M o) e c)) else st2 M 36 12 2) else st2 M 36 12 1)) := by
  refine sem_mk (k := 0) (f := dblF (M 38 o) (fun c e => rel (dM M o) e c)) h hf hn ⟨rfl, by decide, by decide⟩ (fun hc => ⟨hc.2, mks_dual (h.po (or_of hc.1))⟩) ?_ ?_
  · intro n1 K1 M1 he hc
    have e36 := he 36 (by omega) (by omega)
    have e38 := he 38 (by omega) (by omega)
    have e39 := he 39 (by omega) (by omega)
    have i : ∀ o, isOr M1 o = isOr M o := fun o => by unfold isOr; rw [e36]
    have dd : ∀ o, dM M1 o = dM M o := fun o => dM_e e39 o
    simp only [e36, e38, i, dd]
    rw [if_pos hc.1, if_pos hc.2, if_pos hc.1, if_pos hc.2]
    exact ⟨rfl, rfl⟩
  · intro n1 K1 M1 he hc
    have e36 := he 36 (by omega) (by omega)
    have e38 := he 38 (by omega) (by omega)
    have e39 := he 39 (by omega) (by omega)
    have i : ∀ o, isOr M1 o = isOr M o := fun o => by unfold isOr; rw [e36]
    have dd : ∀ o, dM M1 o = dM M o := fun o => dM_e e39 o
    simp only [e36, e38, i, dd]
    by_cases hq : isOr M o = true
    · have h8 : ¬ M 36 0 < 8 := fun z => hc ⟨hq, z⟩
      rw [if_pos hq, if_neg h8, if_pos hq, if_neg h8, if_pos hq]
      exact ⟨rfl, rfl⟩
    · rw [if_neg hq, if_neg hq, if_neg hq]
      exact ⟨rfl, rfl⟩
theorem sem_c_part (h : LK K M) (hn : 55 ≤ n) (hf : ∀ a : Int, (K a).1 ≠ 9 → 0 ≤ a ∧ a < n) {o s : Int} (hr : inR s) : SEM n K M 0 (makQ n K M ((isOr M o = true ∧ (0 ≤ s ∧ s < p2 (M 38 o))) ∧ M 36 0 < 8) (if isOr M o = true ∧ (0 ≤ s ∧ s < p2 (M 38 o)) then 2 else 1) 4 (cnt s) (dbX (cnt s) (cnt s) (fun a b => rel (dM M o) (pk s a) (pk s b)) (fun a _ => a) (fun _ b => b))) (fun (n : Nat) (K : KK) (M : MM) => PQ (some (0, if isOr M o && decide (0 ≤ s) && decide (zshr s (M 38 o) = 0) then (if M 36 0 < 8 then M 36 0 else -1) else -1)) n K (if isOr M o && decide (0 ≤ s) && decide (zshr s (M 38 o) = 0) then (if M 36 0 < 8 then crM M 0 (cnt s) (dblF (cnt s) (fun c e => rel (dM M o) (pk s c) (pk s e))) else st2 M 36 12 2) else st2 M 36 12 1)) := by
  refine sem_mk (k := 0) (f := dblF (cnt s) (fun c e => rel (dM M o) (pk s c) (pk s e))) h hf hn ⟨rfl, by decide, by decide⟩ (fun hc => ⟨hc.2, mks_part (h.po (or_of hc.1.1)) hc.1.2⟩) ?_ ?_
  · intro n1 K1 M1 he hc
    have e36 := he 36 (by omega) (by omega)
    have e38 := he 38 (by omega) (by omega)
    have e39 := he 39 (by omega) (by omega)
    have i : ∀ o, isOr M1 o = isOr M o := fun o => by unfold isOr; rw [e36]
    have dd : ∀ o, dM M1 o = dM M o := fun o => dM_e e39 o
    simp only [e36, e38, i, dd]
    have hb : (isOr M o && decide (0 ≤ s) && decide (zshr s (M 38 o) = 0)) = true := (part_c h hr).mpr hc.1
    rw [if_pos hb, if_pos hc.2, if_pos hb, if_pos hc.2]
    exact ⟨rfl, rfl⟩
  · intro n1 K1 M1 he hc
    have e36 := he 36 (by omega) (by omega)
    have e38 := he 38 (by omega) (by omega)
    have e39 := he 39 (by omega) (by omega)
    have i : ∀ o, isOr M1 o = isOr M o := fun o => by unfold isOr; rw [e36]
    have dd : ∀ o, dM M1 o = dM M o := fun o => dM_e e39 o
    simp only [e36, e38, i, dd]
    by_cases hq : isOr M o = true ∧ (0 ≤ s ∧ s < p2 (M 38 o))
    · have hb : (isOr M o && decide (0 ≤ s) && decide (zshr s (M 38 o) = 0)) = true := (part_c h hr).mpr hq
      have h8 : ¬ M 36 0 < 8 := fun z => hc ⟨hq, z⟩
      rw [if_pos hb, if_neg h8, if_pos hb, if_neg h8, if_pos hq]
      exact ⟨rfl, rfl⟩
    · have hb : ¬ (isOr M o && decide (0 ≤ s) && decide (zshr s (M 38 o) = 0)) = true := fun z => hq ((part_c h hr).mp z)
      rw [if_neg hb, if_neg hb, if_neg hq]
      exact ⟨rfl, rfl⟩
theorem sem_c_drop (h : LK K M) (hn : 55 ≤ n) : SEM n K M 0 (PQ (some (0, if M 36 0 = 0 then -1 else M 36 0 - 1)) n K (if M 36 0 = 0 then st2 M 0 11 3 else st2 (if M 0 4 = M 36 0 - 1 then ehM (drC M) else drC M) 0 11 0)) (fun (n : Nat) (K : KK) (M : MM) => PQ (some (0, if M 36 0 = 0 then -1 else M 36 0 - 1)) n K (if M 36 0 = 0 then st2 M 36 12 3 else st2 (st2 (st2 (st2 (st2 M 36 0 (M 36 0 - 1)) 36 7 0) 36 5 (if M 36 4 = M 36 0 - 1 then 0 else M 36 5)) 36 21 0) 36 12 0)) := by
  by_cases hz : M 36 0 = 0
  · rw [if_pos hz, if_pos hz]
    have e : st2 M 0 11 3 36 0 = 0 := by rw [st2_ne _ (by decide)]; exact hz
    refine sem_pm h hn ⟨WF.fld 0 11 rfl h.wf, fun x x0 _ => st2_ne _ (by omega)⟩ ?_ ?_
    · rw [if_pos e]
    · rw [if_pos e]; exact h.stat 3
  · rw [if_neg hz, if_neg hz]
    obtain ⟨g1, g2, g3⟩ := h.drp hz
    have e : dr1 M 36 0 = M 36 0 := by rw [g3 36 (by omega) (by omega)]
    refine sem_pm (Mc := dr1 M) h hn ⟨g2, g3⟩ ?_ ?_
    · rw [e, if_neg hz]
    · rw [if_neg (by rw [e]; exact hz)]; exact g1
theorem sem_c_told (h : LK K M) (hn : 55 ≤ n) {o w : Int} : SEM n K M 0 (UQ sx (some (0, if isOr M o then toldC (M 37 o) (M 38 o) (dM M o) w else -1)) n K M (fun M' => RC K M')) (fun (n : Nat) (K : KK) (M : MM) => UQ sd (some (0, if isOr M o then toldR (M 37 o) (M 38 o) (dM M o) w else -1)) n K M (TW)) := by
  refine sem_sd h hn (fun M1 hs => ?_)
  have e := sx_e hs
  simp only [e.1.1, e.1.2.1, e.1.2.2.1, e.1.2.2.2.1, e.1.2.2.2.2, e.2.1, e.2.2.1, e.2.2.2]
  by_cases hc : isOr M o = true
  · rw [if_pos hc, if_pos hc, told_eq (h.po (or_of hc))]
  · rw [if_neg hc, if_neg hc]
theorem sem_c_count (h : LK K M) (hn : 55 ≤ n) {w : Int} : SEM n K M 0 (PQ (some (0, if w = 0 then M 36 0 else if w = 1 then M 36 5 else if w = 2 then (if M 36 5 = 0 then -1 else M 36 4) else if w = 3 then M 36 14 else -1)) n K (M)) (fun (n : Nat) (K : KK) (M : MM) => PQ (some (0, if w = 0 then M 36 0 else if w = 1 then M 36 5 else if w = 2 then (if M 36 5 = 0 then -1 else M 36 4) else if w = 3 then M 36 14 else -1)) n K (M)) := sem_pp h hn rfl
theorem sem_c_below (h : LK K M) (hn : 55 ≤ n) {o a b : Int} : SEM n K M 0 (PQ (some (0, if isTh M o a && isTh M o b then (if nxt (M 38 o) (dM M o) a b then 2 else if rel (dM M o) a b then 1 else 0) else -1)) n K (M)) (fun (n : Nat) (K : KK) (M : MM) => PQ (some (0, if isTh M o a && isTh M o b then (if nxt (M 38 o) (dM M o) a b then 2 else if rel (dM M o) a b then 1 else 0) else -1)) n K (M)) := sem_pp h hn rfl
theorem sem_c_widest (h : LK K M) (hn : 55 ≤ n) {o : Int} : SEM n K M 0 (PQ (some (0, if isOr M o then wide (M 38 o) (dM M o) else -1)) n K (M)) (fun (n : Nat) (K : KK) (M : MM) => PQ (some (0, if isOr M o then wide (M 38 o) (dM M o) else -1)) n K (M)) := sem_pp h hn rfl
theorem sem_c_of (h : LK K M) (hn : 55 ≤ n) {o t w : Int} : SEM n K M 0 (UQ sx (some (0, if isTh M o t && (decide (0 ≤ w) && decide (w ≤ 1)) then (if w = 1 then layC (M 38 o) (dM M o) t else oat (chR (M 38 o) (dM M o)) t) else -1)) n K M (fun M' => RC K M')) (fun (n : Nat) (K : KK) (M : MM) => SQ (some (0, if isTh M o t && (decide (0 ≤ w) && decide (w ≤ 1)) then (if w = 1 then lay (M 38 o) (dM M o) t else oat (chR (M 38 o) (dM M o)) t) else -1)) n K M (fun _ => True)) := by
  refine sem_sc h hn (fun M1 hs => ?_)
  have e := sx_e hs
  simp only [e.1.1, e.1.2.1, e.1.2.2.1, e.1.2.2.2.1, e.1.2.2.2.2, e.2.1, e.2.2.1, e.2.2.2]
  by_cases hc : (isTh M o t && (decide (0 ≤ w) && decide (w ≤ 1))) = true
  · have ht := th_of h (Bool.and_eq_true _ _ ▸ hc).1
    rw [if_pos hc, if_pos hc, lay_eq ht.1 ht.2]
  · rw [if_neg hc, if_neg hc]
theorem sem_c_low (h : LK K M) (hn : 55 ≤ n) {o i : Int} : SEM n K M 0 (UQ sx (some (0, if isOr M o then nth (p2 (M 38 o)) (wyP (M 38 o) (dM M o)) 0 i else -1)) n K M (fun M' => RC K M')) (fun (n : Nat) (K : KK) (M : MM) => PQ (some (0, if isOr M o then lowI (M 38 o) (dM M o) i else -1)) n K (M)) := by
  refine sem_sp h hn (fun M1 hs => ?_)
  have e := sx_e hs
  simp only [e.1.1, e.1.2.1, e.1.2.2.1, e.1.2.2.2.1, e.1.2.2.2.2, e.2.1, e.2.2.1, e.2.2.2]
  by_cases hc : isOr M o = true
  · rw [if_pos hc, if_pos hc, nth_low (h.po (or_of hc))]
  · rw [if_neg hc, if_neg hc]
theorem sem_c_rowOut (h : LK K M) (hn : 55 ≤ n) {o rk i : Int} : SEM n K M 0 (UQ sx (some (0, if isOr M o && (decide (0 ≤ rk) && decide (rk < tl (M 38 o) (dM M o) 0)) && (decide (0 ≤ i) && decide (i < M 38 o)) then fdO (M 38 o) (dM M o) rk i else -1)) n K M (fun M' => RC K M')) (fun (n : Nat) (K : KK) (M : MM) => SQ (some (0, if isOr M o && (decide (0 ≤ rk) && decide (rk < tl (M 38 o) (dM M o) 0)) && (decide (0 ≤ i) && decide (i < M 38 o)) then fdO (M 38 o) (dM M o) rk i else -1)) n K M (fun _ => True)) := by
  refine sem_sc h hn (fun M1 hs => ?_)
  have e := sx_e hs
  simp only [e.1.1, e.1.2.1, e.1.2.2.1, e.1.2.2.2.1, e.1.2.2.2.2, e.2.1, e.2.2.1, e.2.2.2]

theorem sem_c_before (h : LK K M) (hn : 55 ≤ n) {o a b : Int} : SEM n K M 0 (UQ sx (some (0, if isTh M o a && isTh M o b && decide (a ≠ b) then ahC (M 38 o) (dM M o) a b else -1)) n K M (fun M' => RC K M')) (fun (n : Nat) (K : KK) (M : MM) => SQ (some (0, if isTh M o a && isTh M o b && decide (a ≠ b) then lyF (M 38 o) (dM M o) a b 0 else -1)) n K M (fun _ => True)) := by
  refine sem_sc h hn (fun M1 hs => ?_)
  have e := sx_e hs
  simp only [e.1.1, e.1.2.1, e.1.2.2.1, e.1.2.2.2.1, e.1.2.2.2.2, e.2.1, e.2.2.1, e.2.2.2]
  by_cases hc : (isTh M o a && isTh M o b && decide (a ≠ b)) = true
  · have hq := hc
    rw [Bool.and_eq_true, Bool.and_eq_true, decide_eq_true_eq] at hq
    have h1 := th_of h hq.1.1
    have h2 := th_of h hq.1.2
    rw [if_pos hc, if_pos hc, ah_eq h1.1.1.1 h1.2 h2.2 hq.2]
  · rw [if_neg hc, if_neg hc]
theorem sem_c_places (h : LK K M) (hn : 55 ≤ n) {o t : Int} : SEM n K M 2 (UQ sx (some (2, if isTh M o t then plC (M 38 o) (dM M o) t else -1)) n K M (fun M' => RC K M')) (fun (n : Nat) (K : KK) (M : MM) => SQ (some (2, if isTh M o t then plS (M 38 o) (dM M o) t else -1)) n K M (fun _ => True)) := by
  refine sem_sc h hn (fun M1 hs => ?_)
  have e := sx_e hs
  simp only [e.1.1, e.1.2.1, e.1.2.2.1, e.1.2.2.2.1, e.1.2.2.2.2, e.2.1, e.2.2.1, e.2.2.2]
  by_cases hc : isTh M o t = true
  · have h1 := th_of h hc
    rw [if_pos hc, if_pos hc, plC_eq h1.1.1.1 h1.2]
  · rw [if_neg hc, if_neg hc]
theorem sem_c_fair (h : LK K M) (hn : 55 ≤ n) {o : Int} : SEM n K M 0 (UQ sx (some (0, if isOr M o then fairC (M 38 o) (dM M o) else -1)) n K M (fun M' => RC K M')) (fun (n : Nat) (K : KK) (M : MM) => SQ (some (0, if isOr M o then fairF (M 38 o) (dM M o) else -1)) n K M (fun _ => True)) := by
  refine sem_sc h hn (fun M1 hs => ?_)
  have e := sx_e hs
  simp only [e.1.1, e.1.2.1, e.1.2.2.1, e.1.2.2.2.1, e.1.2.2.2.2, e.2.1, e.2.2.1, e.2.2.2]
  by_cases hc : isOr M o = true
  · rw [if_pos hc, if_pos hc, fair_eq (h.po (or_of hc)).1.1]
  · rw [if_neg hc, if_neg hc]
theorem sem_c_two (h : LK K M) (hn : 55 ≤ n) {o w i : Int} : SEM n K M 0 (UQ sx (some (0, if isOr M o && (decide (0 ≤ w) && decide (w ≤ 1)) && (decide (0 ≤ i) && decide (i < M 38 o)) then (match grR (M 38 o) (dM M o) with | none => -1 | some z => if w = 0 then z i else secV (M 38 o) (dM M o) z i) else -1)) n K M (fun M' => RC K M')) (fun (n : Nat) (K : KK) (M : MM) => UQ sd (some (0, if isOr M o && (decide (0 ≤ w) && decide (w ≤ 1)) && (decide (0 ≤ i) && decide (i < M 38 o)) then (match twR (M 38 o) (dM M o) with | none => -1 | some z => if w = 0 then z i else secV (M 38 o) (dM M o) z i) else -1)) n K M (TW)) := by
  refine sem_sd h hn (fun M1 hs => ?_)
  have e := sx_e hs
  simp only [e.1.1, e.1.2.1, e.1.2.2.1, e.1.2.2.2.1, e.1.2.2.2.2, e.2.1, e.2.2.1, e.2.2.2]
  by_cases hc : isOr M o = true
  · rw [gr_tw (h.po (or_of hc))]
  · rw [show isOr M o = false by simpa using hc]; rfl
theorem sem_c_invert (h : LK K M) (hn : 55 ≤ n) {o a b : Int} : SEM n K M 0 (UQ sx (some (0, if isTh M o a && isTh M o b then ivS (M 38 o) (dM M o) a (M 17) (M 38 o) b else -1000000)) n K M (fun M' => RC K M')) (fun (n : Nat) (K : KK) (M : MM) => SQ (some (0, if isTh M o a && isTh M o b then invS (M 38 o) (dM M o) a (M 54) 10 b else -1000000)) n K M (fun _ => True)) := by
  refine sem_sc h hn (fun M1 hs => ?_)
  have e := sx_e hs
  simp only [e.1.1, e.1.2.1, e.1.2.2.1, e.1.2.2.2.1, e.1.2.2.2.2, e.2.1, e.2.2.1, e.2.2.2]
  by_cases hc : (isTh M o a && isTh M o b) = true
  · have hq := hc
    rw [Bool.and_eq_true] at hq
    have h1 := th_of h hq.1
    have h2 := th_of h hq.2
    rw [if_pos hc, if_pos hc, iv_eq h1.1 h1.2 h2.2 (M 17) (M1 54)]
  · rw [if_neg hc, if_neg hc]
theorem sem_c_bound (h : LK K M) (hn : 55 ≤ n) {o a b w : Int} : SEM n K M 0 (PQ (some (0, if isTh M o a && isTh M o b && (decide (w = 0) || decide (w = 1)) then bnd (M 38 o) (dM M o) w a b else -2)) n K (M)) (fun (n : Nat) (K : KK) (M : MM) => PQ (some (0, if isTh M o a && isTh M o b && (decide (w = 0) || decide (w = 1)) then bnd (M 38 o) (dM M o) w a b else -2)) n K (M)) := sem_pp h hn rfl
theorem sem_c_uneven (h : LK K M) (hn : 55 ≤ n) {o : Int} : SEM n K M 0 (UQ sx (some (0, if isOr M o && latt (M 38 o) (dM M o) then une (M 38 o) (dM M o) else -1)) n K M (fun M' => RC K M')) (fun (n : Nat) (K : KK) (M : MM) => PQ (some (0, if isOr M o && latt (M 38 o) (dM M o) then une (M 38 o) (dM M o) else -1)) n K (M)) := by
  refine sem_sp h hn (fun M1 hs => ?_)
  have e := sx_e hs
  simp only [e.1.1, e.1.2.1, e.1.2.2.1, e.1.2.2.2.1, e.1.2.2.2.2, e.2.1, e.2.2.1, e.2.2.2]

theorem sem_c_bent (h : LK K M) (hn : 55 ≤ n) {o : Int} : SEM n K M 0 (PQ (some (0, if isOr M o then bentC (M 38 o) (dM M o) else -1)) n K (M)) (fun (n : Nat) (K : KK) (M : MM) => PQ (some (0, if isOr M o then bentM (M 38 o) (dM M o) else -1)) n K (M)) := by
  refine sem_pp h hn ?_
  by_cases hc : isOr M o = true
  · rw [if_pos hc, if_pos hc, bent_eq (h.po (or_of hc)).1.1]
  · rw [if_neg hc, if_neg hc]
theorem sem_c_same (h : LK K M) (hn : 55 ≤ n) {o q a : Int} : SEM n K M 0 (UQ sx (some (0, if isTh M o a && isOr M q && decide (M 38 o = M 38 q) then oat (imR (M 38 o) (dM M o) (dM M q)) a else -1)) n K M (fun M' => RC K M')) (fun (n : Nat) (K : KK) (M : MM) => SQ (some (0, if isTh M o a && isOr M q && decide (M 38 o = M 38 q) then oat (mpR (M 38 o) (dM M o) (dM M q)) a else -1)) n K M (fun _ => True)) := by
  refine sem_sc h hn (fun M1 hs => ?_)
  have e := sx_e hs
  simp only [e.1.1, e.1.2.1, e.1.2.2.1, e.1.2.2.2.1, e.1.2.2.2.2, e.2.1, e.2.2.1, e.2.2.2]
  by_cases hc : (isTh M o a && isOr M q && decide (M 38 o = M 38 q)) = true
  · have hq := hc
    rw [Bool.and_eq_true, Bool.and_eq_true, decide_eq_true_eq] at hq
    have h1 := th_of h hq.1.1
    have h2 := h.po (or_of hq.1.2)
    rw [← hq.2] at h2
    rw [if_pos hc, if_pos hc, im_eq h1.1 h2]
  · rw [if_neg hc, if_neg hc]
theorem sem_c_lay (h : LK K M) (hn : 55 ≤ n) {o t : Int} : SEM n K M 0 (PQ (some (0, if isTh M o t then (if hadH M o t then -1 else M 36 5 + 1) else -1)) n K (if isTh M o t then (if hadH M o t then st2 M 0 11 3 else st2 (st2 (st2 (st2 M 0 4 o) 5 (M 4 1) t) 4 1 (M 4 1 + 1)) 0 11 0) else st2 M 0 11 1)) (fun (n : Nat) (K : KK) (M : MM) => PQ (some (0, if isTh M o t then (if hadH M o t then -1 else M 36 5 + 1) else -1)) n K (if isTh M o t then (if hadH M o t then st2 M 36 12 3 else wasLay M o t) else st2 M 36 12 1)) := by
  have hst : ∀ w : Int, (∀ o t, isTh (st2 M 0 11 w) o t = isTh M o t) ∧ ∀ o t, hadH (st2 M 0 11 w) o t = hadH M o t := fun w => ⟨fun o t => isTh_e (by rw [st2_ne _ (by decide)]) (st2_ne _ (by decide)) o t, fun o t => by unfold hadH inH; rw [st2_ne _ (show (36 : Int) ≠ 0 by decide), st2_ne _ (show (40 : Int) ≠ 0 by decide)]⟩
  by_cases ht : isTh M o t = true
  · rw [if_pos ht, if_pos ht]
    by_cases hd : hadH M o t = true
    · rw [if_pos hd, if_pos hd]
      refine sem_pm h hn ⟨WF.fld 0 11 rfl h.wf, fun x x0 _ => st2_ne _ (by omega)⟩ ?_ ?_
      · rw [(hst 3).1, (hst 3).2, if_pos ht, if_pos hd]
      · rw [(hst 3).1, (hst 3).2, if_pos ht, if_pos hd]; exact h.stat 3
    · rw [if_neg hd, if_neg hd]
      have hd' : hadH M o t = false := by simpa using hd
      obtain ⟨g1, g2, g3⟩ := h.lyd ht hd'
      have i1 : isTh (la1 M o t) o t = true := by rw [isTh_e (by rw [g3 36 (by omega) (by omega)]) (g3 38 (by omega) (by omega))]; exact ht
      have i2 : ¬ hadH (la1 M o t) o t = true := by unfold hadH inH; rw [g3 36 (by omega) (by omega), g3 40 (by omega) (by omega)]; exact hd
      refine sem_pm (Mc := la1 M o t) h hn ⟨g2, g3⟩ ?_ ?_
      · rw [if_pos i1, if_neg i2, g3 36 (by omega) (by omega)]
      · rw [if_pos i1, if_neg i2]; exact g1
  · rw [if_neg ht, if_neg ht]
    refine sem_pm h hn ⟨WF.fld 0 11 rfl h.wf, fun x x0 _ => st2_ne _ (by omega)⟩ ?_ ?_
    · rw [(hst 1).1, if_neg ht]
    · rw [(hst 1).1, if_neg ht]; exact h.stat 1
theorem sem_c_clear (h : LK K M) (hn : 55 ≤ n) : SEM n K M 0 (PQ (some (0, M 36 5)) n K (st2 (ehM M) 0 11 0)) (fun (n : Nat) (K : KK) (M : MM) => PQ (some (0, M 36 5)) n K (st2 (st2 M 36 5 0) 36 12 0)) := by
  obtain ⟨g1, g2, g3⟩ := h.clr
  refine sem_pm h hn ⟨g2, g3⟩ ?_ g1
  rw [g3 36 (by omega) (by omega)]
theorem sem_c_hand (h : LK K M) (hn : 55 ≤ n) {w : Int} : SEM n K M 0 (UQ sx (some (0, if (decide (0 ≤ w) && decide (w ≤ 2)) && decide (M 36 5 ≠ 0) then (if w = 2 then lkR (M 36 5) (dM M (M 36 4)) (M 40) 0 0 else if decide (0 < M 36 5) && decide (M 36 5 = (M 38 (M 36 4))) && decide (lkR (M 36 5) (dM M (M 36 4)) (M 40) 0 0 = -1) then (if w = 0 then (rkS (M 38 (M 36 4)) (dM M (M 36 4)) (M 40) (M 36 5)).1 else jmp (dM M (M 36 4)) (M 40) (M 36 5)) else -1) else -1)) n K M (fun M' => RC K M')) (fun (n : Nat) (K : KK) (M : MM) => SQ (some (0, if (decide (0 ≤ w) && decide (w ≤ 2)) && decide (M 36 5 ≠ 0) then (if w = 2 then lkR (M 36 5) (dM M (M 36 4)) (M 40) 0 0 else if decide (0 < M 36 5) && decide (M 36 5 = M 38 (M 36 4)) && decide (lkR (M 36 5) (dM M (M 36 4)) (M 40) 0 0 = -1) then (if w = 0 then (rkS (M 38 (M 36 4)) (dM M (M 36 4)) (M 40) (M 36 5)).1 else jmp (dM M (M 36 4)) (M 40) (M 36 5)) else -1) else -1)) n K M (fun _ => True)) := by
  refine sem_sc h hn (fun M1 hs => ?_)
  have e := sx_e hs
  simp only [e.1.1, e.1.2.1, e.1.2.2.1, e.1.2.2.2.1, e.1.2.2.2.2, e.2.1, e.2.2.1, e.2.2.2]

theorem sem_c_unlike (h : LK K M) (hn : 55 ≤ n) {rk : Int} : SEM n K M 0 (UQ sx (some (0, if (decide (0 < M 36 5) && decide (M 36 5 = (M 38 (M 36 4))) && decide (lkR (M 36 5) (dM M (M 36 4)) (M 40) 0 0 = -1)) && (decide (0 ≤ rk) && decide (rk < tl (M 38 (M 36 4)) (dM M (M 36 4)) 0)) then unC (M 38 (M 36 4)) (M 5) (fdO (M 38 (M 36 4)) (dM M (M 36 4)) rk) else -1)) n K M (fun M' => RC K M')) (fun (n : Nat) (K : KK) (M : MM) => SQ (some (0, if (decide (0 < M 36 5) && decide (M 36 5 = M 38 (M 36 4)) && decide (lkR (M 36 5) (dM M (M 36 4)) (M 40) 0 0 = -1)) && (decide (0 ≤ rk) && decide (rk < tl (M 38 (M 36 4)) (dM M (M 36 4)) 0)) then unl (M 38 (M 36 4)) (M 40) (fdO (M 38 (M 36 4)) (dM M (M 36 4)) rk) else -1)) n K M (fun _ => True)) := by
  refine sem_sc h hn (fun M1 hs => ?_)
  have e := sx_e hs
  simp only [e.1.1, e.1.2.1, e.1.2.2.1, e.1.2.2.2.1, e.1.2.2.2.2, e.2.1, e.2.2.1, e.2.2.2]
  by_cases hc : ((decide (0 < M 36 5) && decide (M 36 5 = (M 38 (M 36 4))) && decide (lkR (M 36 5) (dM M (M 36 4)) (M 40) 0 0 = -1)) && (decide (0 ≤ rk) && decide (rk < tl (M 38 (M 36 4)) (dM M (M 36 4)) 0))) = true
  · have hq := hc
    rw [Bool.and_eq_true, Bool.and_eq_true, Bool.and_eq_true, decide_eq_true_eq, decide_eq_true_eq] at hq
    have h5 := h.lh
    rw [if_pos hc, if_pos hc, unC_unl (by have := h5.1.1; omega)]
    exact (unl_x (fun i i0 i1 => h5.2.2.1 i i0 (by omega))).symm
  · rw [if_neg hc, if_neg hc]
theorem sem_c_act (h : LK K M) (hn : 55 ≤ n) {o w x : Int} : SEM n K M 0 (PQ (some (0, if isOr M o && (decide (0 ≤ w) && decide (w ≤ 3)) then actR w (M 37 o) (M 38 o) (prs (M 38 o) (dM M o)) o x else -1)) n K (if isOr M o && (decide (0 ≤ w) && decide (w ≤ 3)) then st2 (adL (st2 M 6 1 0) (actT w (M 37 o))) 0 11 0 else st2 M 0 11 1)) (fun (n : Nat) (K : KK) (M : MM) => PQ (some (0, if isOr M o && (decide (0 ≤ w) && decide (w ≤ 3)) then actR w (M 37 o) (M 38 o) (prs (M 38 o) (dM M o)) o x else -1)) n K (if isOr M o && (decide (0 ≤ w) && decide (w ≤ 3)) then st2 (rnL (st2 M 36 14 0) (actT w (M 37 o))) 36 12 0 else st2 M 36 12 1)) := by
  by_cases hc : (isOr M o && (decide (0 ≤ w) && decide (w ≤ 3))) = true
  · rw [if_pos hc, if_pos hc]
    obtain ⟨g1, g2, g3⟩ := h.acd (actT_len w (M 37 o))
    have i : isOr (ac1 M (actT w (M 37 o))) o = isOr M o := by unfold isOr; rw [g3 36 (by omega) (by omega)]
    refine sem_pm (Mc := ac1 M (actT w (M 37 o))) h hn ⟨g2, g3⟩ ?_ ?_
    · rw [i, if_pos hc, g3 37 (by omega) (by omega), g3 38 (by omega) (by omega), dM_e (g3 39 (by omega) (by omega))]
    · rw [i, if_pos hc, g3 37 (by omega) (by omega)]; exact g1
  · rw [if_neg hc, if_neg hc]
    have i : isOr (st2 M 0 11 1) o = isOr M o := by unfold isOr; rw [st2_ne _ (by decide)]
    refine sem_pm h hn ⟨WF.fld 0 11 rfl h.wf, fun x x0 _ => st2_ne _ (by omega)⟩ ?_ ?_
    · rw [i, if_neg hc]
    · rw [i, if_neg hc]; exact h.stat 1
theorem sem_c_trace (h : LK K M) (hn : 55 ≤ n) {i : Int} : SEM n K M 0 (PQ (some (0, if 0 ≤ i ∧ i < M 36 14 then M 45 i else -1)) n K (M)) (fun (n : Nat) (K : KK) (M : MM) => PQ (some (0, if 0 ≤ i ∧ i < M 36 14 then M 45 i else -1)) n K (M)) := sem_pp h hn rfl
theorem sem_c_sheet (h : LK K M) (hn : 55 ≤ n) {s so q : Int} : SEM n K M 0 (PQ (some (0, if (decide (0 ≤ s) && decide (s ≤ 3)) && (decide (-1 ≤ so) && decide (so ≤ 2)) && (decide (so = -1) || (decide (0 ≤ q) && decide (q ≤ 20))) then 1 else -1)) n K (if (decide (0 ≤ s) && decide (s ≤ 3)) && (decide (-1 ≤ so) && decide (so ≤ 2)) && (decide (so = -1) || (decide (0 ≤ q) && decide (q ≤ 20))) then st2 (reM M (28 + 2 * s) so (if so = -1 then 0 else q)) 0 11 0 else st2 M 0 11 1)) (fun (n : Nat) (K : KK) (M : MM) => PQ (some (0, if (decide (0 ≤ s) && decide (s ≤ 3)) && (decide (-1 ≤ so) && decide (so ≤ 2)) && (decide (so = -1) || (decide (0 ≤ q) && decide (q ≤ 20))) then 1 else -1)) n K (if (decide (0 ≤ s) && decide (s ≤ 3)) && (decide (-1 ≤ so) && decide (so ≤ 2)) && (decide (so = -1) || (decide (0 ≤ q) && decide (q ≤ 20))) then st2 (shM M s so (if so = -1 then 0 else q) 20) 36 12 0 else st2 M 36 12 1)) := by
  by_cases hc : ((decide (0 ≤ s) && decide (s ≤ 3)) && (decide (-1 ≤ so) && decide (so ≤ 2)) && (decide (so = -1) || (decide (0 ≤ q) && decide (q ≤ 20)))) = true
  · have hq := hc
    rw [Bool.and_eq_true, Bool.and_eq_true, Bool.and_eq_true, Bool.and_eq_true, Bool.or_eq_true, Bool.and_eq_true, decide_eq_true_eq, decide_eq_true_eq, decide_eq_true_eq, decide_eq_true_eq, decide_eq_true_eq, decide_eq_true_eq, decide_eq_true_eq] at hq
    rw [if_pos hc, if_pos hc]
    obtain ⟨g1, g2, g3⟩ := h.sht (s := s) (so := so) (q := if so = -1 then 0 else q) hq.1.1 hq.1.2 (by split; omega; rcases hq.2 with z | z; contradiction; exact z)
    refine sem_pm (Mc := sh1 M s so (if so = -1 then 0 else q)) h hn ⟨g2, g3⟩ ?_ ?_
    · first | rfl | rw [if_pos hc]
    · rw [if_pos hc]; exact g1
  · rw [if_neg hc, if_neg hc]
    refine sem_pm h hn ⟨WF.fld 0 11 rfl h.wf, fun x x0 _ => st2_ne _ (by omega)⟩ ?_ ?_
    · first | rfl | rw [if_neg hc]
    · rw [if_neg hc]; exact h.stat 1
theorem sem_c_cell (h : LK K M) (hn : 55 ≤ n) {s i v : Int} : SEM n K M 0 (PQ (some (0, if (decide (0 ≤ s) && decide (s ≤ 3)) && (decide (0 ≤ v) && decide (v ≤ 100)) then (if M 42 s = -1 then -1 else if 0 ≤ i ∧ i < M 43 s then 1 else -1) else -1)) n K (if (decide (0 ≤ s) && decide (s ≤ 3)) && (decide (0 ≤ v) && decide (v ≤ 100)) then (if M 42 s = -1 then st2 M 0 11 10 else if 0 ≤ i ∧ i < M 43 s then st2 (st2 M (28 + 2 * s + 1) i v) 0 11 0 else st2 M 0 11 12) else st2 M 0 11 1)) (fun (n : Nat) (K : KK) (M : MM) => PQ (some (0, if (decide (0 ≤ s) && decide (s ≤ 3)) && (decide (0 ≤ v) && decide (v ≤ 100)) then (if M 42 s = -1 then -1 else if 0 ≤ i ∧ i < M 43 s then 1 else -1) else -1)) n K (if (decide (0 ≤ s) && decide (s ≤ 3)) && (decide (0 ≤ v) && decide (v ≤ 100)) then (if M 42 s = -1 then st2 M 36 12 10 else if 0 ≤ i ∧ i < M 43 s then st2 (st2 M 44 (20 * s + i) v) 36 12 0 else st2 M 36 12 12) else st2 M 36 12 1)) := by
  by_cases hc : ((decide (0 ≤ s) && decide (s ≤ 3)) && (decide (0 ≤ v) && decide (v ≤ 100))) = true
  · have hq := hc
    rw [Bool.and_eq_true, Bool.and_eq_true, Bool.and_eq_true, decide_eq_true_eq, decide_eq_true_eq, decide_eq_true_eq, decide_eq_true_eq] at hq
    rw [if_pos hc, if_pos hc]
    by_cases h1 : M 42 s = -1
    · rw [if_pos h1, if_pos h1]
      have e : st2 M 0 11 10 42 s = -1 := by rw [st2_ne _ (by decide)]; exact h1
      refine sem_pm h hn ⟨WF.fld 0 11 rfl h.wf, fun x x0 _ => st2_ne _ (by omega)⟩ ?_ ?_
      · rw [if_pos hc, if_pos e]
      · rw [if_pos hc, if_pos e]; exact h.stat 10
    · rw [if_neg h1, if_neg h1]
      by_cases h2 : 0 ≤ i ∧ i < M 43 s
      · rw [if_pos h2, if_pos h2]
        obtain ⟨g1, g2, g3⟩ := h.cel hq.1 hq.2 h2
        refine sem_pm (Mc := ce1 M s i v) h hn ⟨g2, g3⟩ ?_ ?_
        · rw [if_pos hc, g3 42 (by omega) (by omega), g3 43 (by omega) (by omega), if_neg h1, if_pos h2]
        · rw [if_pos hc, g3 42 (by omega) (by omega), g3 43 (by omega) (by omega), if_neg h1, if_pos h2]; exact g1
      · rw [if_neg h2, if_neg h2]
        refine sem_pm h hn ⟨WF.fld 0 11 rfl h.wf, fun x x0 _ => st2_ne _ (by omega)⟩ ?_ ?_
        · rw [if_pos hc, st2_ne _ (show (42 : Int) ≠ 0 by decide), st2_ne _ (show (43 : Int) ≠ 0 by decide), if_neg h1, if_neg h2]
        · rw [if_pos hc, st2_ne (x := 42) _ (by decide), st2_ne (x := 43) _ (by decide), if_neg h1, if_neg h2]; exact h.stat 12
  · rw [if_neg hc, if_neg hc]
    refine sem_pm h hn ⟨WF.fld 0 11 rfl h.wf, fun x x0 _ => st2_ne _ (by omega)⟩ ?_ ?_
    · rw [if_neg hc]
    · rw [if_neg hc]; exact h.stat 1
theorem sem_c_pairs (h : LK K M) (hn : 55 ≤ n) {o s so q : Int} : SEM n K M 0 (prQ n K M o s so q) (fun (n : Nat) (K : KK) (M : MM) => PQ (some (0, prV M o s so q)) n K (prN M o s so q)) := sem_pairs h hn
theorem sem_c_forge (h : LK K M) (hn : 55 ≤ n) {w q k : Int} : SEM n K M 0 (PQ (some (0, if fgOk w q k then fgR M w q (mdl k 8) (mdl k 4) else -1)) n K (if fgOk w q k then st2 M 0 11 (fgS M w q (mdl k 8) (mdl k 4)) else st2 M 0 11 1)) (fun (n : Nat) (K : KK) (M : MM) => PQ (some (0, if fgOk w q k then fgR M w q (mdl k 8) (mdl k 4) else -1)) n K (if fgOk w q k then st2 M 36 12 (fgS M w q (mdl k 8) (mdl k 4)) else st2 M 36 12 1)) := by
  by_cases hc : fgOk w q k = true
  · rw [if_pos hc, if_pos hc]
    refine sem_pm h hn ⟨WF.fld 0 11 rfl h.wf, fun x x0 _ => st2_ne _ (by omega)⟩ ?_ ?_
    · rw [if_pos hc, fgR_e (fun x hx => st2_ne _ hx)]
    · rw [if_pos hc, fgS_e (fun x hx => st2_ne _ hx)]; exact h.stat _
  · rw [if_neg hc, if_neg hc]
    refine sem_pm h hn ⟨WF.fld 0 11 rfl h.wf, fun x x0 _ => st2_ne _ (by omega)⟩ ?_ ?_
    · rw [if_neg hc]
    · rw [if_neg hc]; exact h.stat 1
theorem sem_c_status (h : LK K M) (hn : 55 ≤ n) : SEM n K M 0 (PQ (some (0, M 0 11)) n K (M)) (fun (n : Nat) (K : KK) (M : MM) => PQ (some (0, M 36 12)) n K (M)) := sem_pp h hn h.st.symm
end SEMA
