/-! ===== the link is kept: pairs of a sheet ===== -/
theorem go_eq {X : MM} {o m a b : Int} {d : Int → Int} (hm : 0 ≤ m ∧ m ≤ 10) (ho : 0 ≤ o ∧ o < X 36 0) (h38 : X 38 o = m) (hd : ∀ y, 0 ≤ y → y < 10 → dM X o y = d y) : goB X o a b = goD m d a b := by
  unfold goB goD
  rw [isTh_y ho, isTh_y ho, h38]
  by_cases ha : 0 ≤ a ∧ a < m
  · have e : rel (dM X o) b a = rel d b a := by unfold rel; rw [hd a ha.1 (by omega)]
    rw [e]
  · have : (decide (0 ≤ a) && decide (a < m)) = false := by
      rw [Bool.eq_false_iff, ne_eq, Bool.and_eq_true, decide_eq_true_eq, decide_eq_true_eq]; exact ha
    rw [this]; rfl
theorem tlD_e {m : Int} {d e : Int → Int} {a b : Int} (ha : 0 ≤ a ∧ a < 10) (h : ∀ y, 0 ≤ y → y < 10 → d y = e y) : ∀ y, 0 ≤ y → y < 10 → tlD m d a b y = tlD m e a b y := by
  intro y y0 y1
  unfold tlD rel
  rw [h y y0 y1, h a ha.1 ha.2]
theorem goD_of {m : Int} {d : Int → Int} {a b : Int} (h : goD m d a b = true) : (0 ≤ a ∧ a < m) ∧ (0 ≤ b ∧ b < m) ∧ a ≠ b ∧ rel d b a = false := by
  unfold goD at h
  rw [Bool.and_eq_true, Bool.and_eq_true, Bool.and_eq_true, Bool.and_eq_true, Bool.and_eq_true, Bool.not_eq_true', decide_eq_true_eq, decide_eq_true_eq, decide_eq_true_eq, decide_eq_true_eq, decide_eq_true_eq] at h
  exact ⟨h.1.1.1, h.1.1.2, h.1.2, h.2⟩
theorem pr_ok {K : KK} {o s m : Int} {N : Int → Int} (ho8 : 0 ≤ o ∧ o < 8) (hm : 0 ≤ m ∧ m ≤ 10) : ∀ (f : Nat) (k : Int) (X : MM) (d : Int → Int), MO K X → o < X 36 0 → X 38 o = m → PO m d → (∀ y, 0 ≤ y → y < 10 → dM X o y = d y) → (∀ i, 0 ≤ i → i < 20 → X 44 (20 * s + i) = N i) → 0 ≤ k → k + f ≤ 10 →
    prK o s f k X = (prP m N f k d).1 ∧ PO m (prP m N f k d).2 ∧ (∀ y, 0 ≤ y → y < 10 → dM (prM o s f k X) o y = (prP m N f k d).2 y) ∧ (∀ o', 0 ≤ o' → o' < 8 → o' ≠ o → ∀ y, 0 ≤ y → y < 10 → dM (prM o s f k X) o' y = dM X o' y) ∧ (∀ j : Int, j ≠ 21 → prM o s f k X 36 j = X 36 j) ∧ (prM o s f k X = X ∨ prM o s f k X 36 21 = 0) ∧ MO K (prM o s f k X) ∧ ∀ x y, 0 ≤ x → x < m → 0 ≤ y → y < m → rel d x y = true → rel (prP m N f k d).2 x y = true := by
  intro f
  induction f with
  | zero => intro k X d hX ho h38 hP hd hN k0 kf; exact ⟨rfl, hP, hd, fun _ _ _ _ _ _ _ => rfl, fun _ _ => rfl, Or.inl rfl, hX, fun _ _ _ _ _ _ h => h⟩
  | succ f ih =>
    intro k X d hX ho h38 hP hd hN k0 kf
    have eA : X 44 (20 * s + 2 * k) = N (2 * k) := hN (2 * k) (by omega) (by omega)
    have eB : X 44 (20 * s + 2 * k + 1) = N (2 * k + 1) := by rw [show 20 * s + 2 * k + 1 = 20 * s + (2 * k + 1) by omega]; exact hN (2 * k + 1) (by omega) (by omega)
    have hgo := go_eq (X := X) (o := o) (a := N (2 * k)) (b := N (2 * k + 1)) hm ⟨ho8.1, ho⟩ h38 hd
    rw [prK_s, prM_s, eA, eB, hgo]
    cases hq : goD m d (N (2 * k)) (N (2 * k + 1)) with
    | false =>
      rw [prP_no hq, if_neg (by decide), if_neg (by decide)]
      exact ⟨rfl, hP, hd, fun _ _ _ _ _ _ _ => rfl, fun _ _ => rfl, Or.inl rfl, hX, fun _ _ _ _ _ _ h => h⟩
    | true =>
      rw [prP_go hq, if_pos rfl, if_pos rfl]
      obtain ⟨ha, hb, hne, hr⟩ := goD_of hq
      have h1 : ∀ y, 0 ≤ y → y < 10 → tl1 m d (N (2 * k)) (N (2 * k + 1)) y = tlD m d (N (2 * k)) (N (2 * k + 1)) y := tl1_eq hP ha hb
      have hP1 : PO m (tl1 m d (N (2 * k)) (N (2 * k + 1))) := (po_tl hP ha hb hne hr).ext (fun y y0 y1 => (h1 y y0 y1).symm)
      have hd1 : ∀ y, 0 ≤ y → y < 10 → dM (tlM X o (N (2 * k)) (N (2 * k + 1))) o y = tl1 m d (N (2 * k)) (N (2 * k + 1)) y := fun y y0 y1 => by
        rw [dM_tl y y0 y1, h38, tlD_e ⟨ha.1, by omega⟩ hd y y0 y1, h1 y y0 y1]
      have hMO1 := hX.tl (b := N (2 * k + 1)) ho8 (a := N (2 * k)) (by rw [h38]; exact ha)
      have e36 : ∀ j : Int, j ≠ 21 → tlM X o (N (2 * k)) (N (2 * k + 1)) 36 j = X 36 j := fun j hj => by unfold tlM; rw [st2_o _ hj, setA_ne _ (by decide)]
      obtain ⟨g1, g2, g3, g4, g5, g6, g7, g8⟩ := ih (k + 1) (tlM X o (N (2 * k)) (N (2 * k + 1))) (tl1 m d (N (2 * k)) (N (2 * k + 1))) hMO1 (by rw [e36 0 (by decide)]; exact ho) (by rw [tlM_x (by decide)]; exact h38) hP1 hd1 (fun i i0 i1 => by rw [tlM_x (by decide)]; exact hN i i0 i1) (by omega) (by omega)
      refine ⟨g1, g2, g3, fun o' o0 o1 hoo y y0 y1 => ?_, fun j hj => ?_, Or.inr ?_, g7, fun x y x0 x1 y0 y1 hxy => g8 x y x0 x1 y0 y1 ?_⟩
      · rw [g4 o' o0 o1 hoo y y0 y1]
        exact dM_tlo hoo (by rw [h38]; exact hm.2) y y0 y1
      · rw [g5 j hj, e36 j hj]
      · rcases g6 with w | w
        · rw [w]; unfold tlM; rw [st2_self]
        · exact w
      · have : rel (tl1 m d (N (2 * k)) (N (2 * k + 1))) x y = rel (tlD m d (N (2 * k)) (N (2 * k + 1))) x y := by unfold rel; rw [h1 y y0 (by omega)]
        rw [this, rel_tlD hP.1 ha x0 ⟨y0, y1⟩, hxy]; rfl
def prV (M : MM) (o s so q : Int) : Int := if prC M o s so q then (if M 37 o ≠ 0 then -1 else if 0 < q ∧ M 42 s = -1 then -1 else if 0 < q ∧ M 42 s ≠ so then -1 else if 0 < q ∧ M 43 s < 2 * q then -1 else prK o s q.toNat 0 M) else -1
def prN (M : MM) (o s so q : Int) : MM := if prC M o s so q then (if M 37 o ≠ 0 then st2 M 36 12 3 else if 0 < q ∧ M 42 s = -1 then st2 M 36 12 10 else if 0 < q ∧ M 42 s ≠ so then st2 M 36 12 11 else if 0 < q ∧ M 43 s < 2 * q then st2 M 36 12 12 else st2 (prM o s q.toNat 0 M) 36 12 0) else st2 M 36 12 1
theorem prC_e {M M1 : MM} (h : M1 36 0 = M 36 0) (o s so q : Int) : prC M1 o s so q = prC M o s so q := by unfold prC isOr; rw [h]
theorem LK.prd {n n1 : Nat} {K K1 : KK} {M M1 : MM} {o s so q : Int} {r1 : Option VV} (h : LK K M) (h1 : prQ n K M o s so q r1 n1 K1 M1) : (WF K1 M1 ∧ ∀ x : Int, 36 ≤ x → x ≤ 54 → M1 x = M x) ∧ r1 = some (0, prV M1 o s so q) ∧ n1 = n ∧ LK K1 (prN M1 o s so q) := by
  obtain ⟨rfl, rfl, h1⟩ := h1
  have key : ∀ w : Int, ∀ x : Int, x ≠ 0 → st2 M 0 11 w x = M x := fun w x hx => st2_ne _ hx
  have hst : ∀ w : Int, WF K1 (st2 M 0 11 w) ∧ ∀ x : Int, 36 ≤ x → x ≤ 54 → st2 M 0 11 w x = M x := fun w => ⟨WF.fld 0 11 rfl h.wf, fun x x0 _ => st2_ne _ (by omega)⟩
  have hc : ∀ w : Int, prC (st2 M 0 11 w) o s so q = prC M o s so q := fun w => prC_e (by rw [key w 36 (by decide)]) o s so q
  rcases h1 with ⟨c1, rfl, rfl⟩ | ⟨c1, c2, rfl, rfl⟩ | ⟨c1, c2, c3, rfl, rfl⟩ | ⟨c1, c2, c3, c4, rfl, rfl⟩ | ⟨c1, c2, c3, c4, rfl, N, hN, hNo, rfl⟩
  · refine ⟨hst 1, ?_, rfl, ?_⟩
    · unfold prV; rw [hc, c1]; rfl
    · unfold prN; rw [hc, c1]; exact h.stat 1
  · refine ⟨hst 3, ?_, rfl, ?_⟩
    · unfold prV; rw [hc, c1, key 3 37 (by decide), if_pos rfl, if_pos c2]
    · unfold prN; rw [hc, c1, key 3 37 (by decide), if_pos rfl, if_pos c2]; exact h.stat 3
  · subst c3
    refine ⟨hst 0, ?_, rfl, ?_⟩
    · unfold prV; rw [hc, c1, key 0 37 (by decide), if_pos rfl, if_neg (fun z => z c2), if_neg (by omega), if_neg (by omega), if_neg (by omega)]; rfl
    · unfold prN; rw [hc, c1, key 0 37 (by decide), if_pos rfl, if_neg (fun z => z c2), if_neg (by omega), if_neg (by omega), if_neg (by omega)]; exact h.stat 0
  · refine ⟨hst _, ?_, rfl, ?_⟩
    · unfold prV; rw [hc, c1, key _ 37 (by decide), key _ 42 (by decide), key _ 43 (by decide), if_pos rfl, if_neg (fun z => z c2)]
      unfold whW at c4
      by_cases q1 : M 42 s = -1
      · rw [if_pos ⟨c3, q1⟩]
      · rw [if_neg (fun z => q1 z.2)]
        rw [if_neg q1] at c4
        by_cases q2 : M 42 s ≠ so
        · rw [if_pos ⟨c3, q2⟩]
        · rw [if_neg (fun z => q2 z.2)]
          rw [if_neg q2] at c4
          by_cases q3 : M 43 s < 2 * q
          · rw [if_pos ⟨c3, q3⟩]
          · rw [if_neg q3] at c4; exact absurd rfl c4
    · unfold prN
      rw [hc, c1, key _ 37 (by decide), key _ 42 (by decide), key _ 43 (by decide), if_pos rfl, if_neg (fun z => z c2)]
      unfold whW at c4 ⊢
      by_cases q1 : M 42 s = -1
      · rw [if_pos ⟨c3, q1⟩, if_pos q1]; exact h.stat 10
      · rw [if_neg (fun z => q1 z.2), if_neg q1]
        rw [if_neg q1] at c4
        by_cases q2 : M 42 s ≠ so
        · rw [if_pos ⟨c3, q2⟩, if_pos q2]; exact h.stat 11
        · rw [if_neg (fun z => q2 z.2), if_neg q2]
          rw [if_neg q2] at c4
          by_cases q3 : M 43 s < 2 * q
          · rw [if_pos ⟨c3, q3⟩, if_pos q3]; exact h.stat 12
          · rw [if_neg q3] at c4; exact absurd rfl c4
  · -- told
    have hcc : isOr M o = true ∧ (0 ≤ s ∧ s ≤ 3) ∧ (0 ≤ so ∧ so ≤ 2) ∧ (0 ≤ q ∧ q ≤ 10) := by
      unfold prC at c1
      rw [Bool.and_eq_true, Bool.and_eq_true, Bool.and_eq_true, Bool.and_eq_true, Bool.and_eq_true, Bool.and_eq_true, decide_eq_true_eq, decide_eq_true_eq, decide_eq_true_eq, decide_eq_true_eq, decide_eq_true_eq, decide_eq_true_eq] at c1
      exact ⟨c1.1.1.1, c1.1.1.2, c1.1.2, c1.2⟩
    have ho : 0 ≤ o ∧ o < M 36 0 := by have := hcc.1; unfold isOr at this; rw [Bool.and_eq_true, decide_eq_true_eq, decide_eq_true_eq] at this; exact this
    have c8 := h.c8
    have hbo := h.ob ho
    have hg := hbo.ge
    have hP := h.po ho
    have x1 : ∀ x : Int, x ≠ 0 → (x < M 1 o ∨ M 1 o + 2 < x) → st2 N 0 11 0 x = M x := fun x p r => by rw [st2_ne _ p]; exact hN x r
    have w1 : WF K1 (st2 N 0 11 0) := WF.fld 0 11 rfl hNo.wf
    have e36 := x1 36 (by decide) (by omega)
    have e37 := x1 37 (by decide) (by omega)
    have e38 := x1 38 (by decide) (by omega)
    have e39 := x1 39 (by decide) (by omega)
    have e42 := x1 42 (by decide) (by omega)
    have e43 := x1 43 (by decide) (by omega)
    have e44 := x1 44 (by decide) (by omega)
    have hmo : MO K1 (st2 N 0 11 0) := mo_same h w1 (by rw [e36]; exact c8) e38 e39
    have hls := h.ls s hcc.2.1.1 (by omega)
    obtain ⟨g1, g2, g3, g4, g5, g6, g7, g8⟩ := pr_ok (K := K1) (o := o) (s := s) (m := M 38 o) (N := M (28 + 2 * s + 1)) ⟨ho.1, by omega⟩ hP.1.1 q.toNat 0 (st2 N 0 11 0) (dM M o) hmo (by rw [e36]; exact ho.2) (by rw [e38]) hP (fun y _ _ => by rw [dM_e e39]) (fun i i0 i1 => by rw [e44, show 28 + 2 * s + 1 = 29 + 2 * s by omega]; exact (hls.2.2.2 i i0 i1).1.symm) (by omega) (by omega)
    have hw42 : ¬ (0 < q ∧ M 42 s = -1) ∧ ¬ (0 < q ∧ M 42 s ≠ so) ∧ ¬ (0 < q ∧ M 43 s < 2 * q) := by
      unfold whW at c4
      by_cases q1 : M 42 s = -1
      · rw [if_pos q1] at c4; omega
      · rw [if_neg q1] at c4
        by_cases q2 : M 42 s ≠ so
        · rw [if_pos q2] at c4; omega
        · rw [if_neg q2] at c4
          by_cases q3 : M 43 s < 2 * q
          · rw [if_pos q3] at c4; omega
          · exact ⟨fun z => q1 z.2, fun z => q2 z.2, fun z => q3 z.2⟩
    have hc5 : prC (st2 N 0 11 0) o s so q = true := by rw [prC_e (by rw [e36]) o s so q]; exact c1
    refine ⟨⟨w1, fun x x0 x1' => x1 x (by omega) (by omega)⟩, ?_, rfl, ?_⟩
    · unfold prV
      rw [hc5, if_pos rfl, e37, e42, e43, if_neg (fun z => z c2), if_neg hw42.1, if_neg hw42.2.1, if_neg hw42.2.2, g1]
      rfl
    · unfold prN
      rw [hc5, if_pos rfl, e37, e42, e43, if_neg (fun z => z c2), if_neg hw42.1, if_neg hw42.2.1, if_neg hw42.2.2]
      have w2 : WF K1 (st2 (prM o s q.toNat 0 (st2 N 0 11 0)) 36 12 0) := WF.fld 36 12 rfl g7.1
      have y : ∀ x : Int, x ≠ 36 → x ≠ 39 → st2 (prM o s q.toNat 0 (st2 N 0 11 0)) 36 12 0 x = st2 N 0 11 0 x := fun x p r => by rw [st2_ne _ p, prM_x ⟨p, r⟩]
      have k36 : ∀ k : Int, k ≠ 12 → k ≠ 21 → st2 (prM o s q.toNat 0 (st2 N 0 11 0)) 36 12 0 36 k = M 36 k := fun k p r => by rw [st2_o _ p, g5 k r, e36]
      have hNo' : OB K1 (st2 (prM o s q.toNat 0 (st2 N 0 11 0)) 36 12 0) (M 1 o) 4 o (M 38 o) (prZ M o s q).2 := hNo.of w2 (by rw [y _ (by omega) (by omega), st2_ne _ (by omega)]) (by rw [y _ (by omega) (by omega), st2_ne _ (by omega)]) (by rw [y _ (by omega) (by omega), st2_ne _ (by omega)])
      refine h.tell ho c2 w2 hNo' g2 g8 (fun z z0 z1 => ?_) (fun o' o0 o1 hoo z z0 z1 => ?_) (fun x p _ r t u => by rw [y x r t, x1 x p u]) ⟨?_, ?_⟩ (fun k hk => k36 k (by omega) (by omega)) ?_ ?_ ?_
      · rw [show dM (st2 (prM o s q.toNat 0 (st2 N 0 11 0)) 36 12 0) o = dM (prM o s q.toNat 0 (st2 N 0 11 0)) o from dM_e (st2_ne _ (by decide)) o]
        exact g3 z z0 z1
      · rw [show dM (st2 (prM o s q.toNat 0 (st2 N 0 11 0)) 36 12 0) o' = dM (prM o s q.toNat 0 (st2 N 0 11 0)) o' from dM_e (st2_ne _ (by decide)) o', g4 o' o0 o1 hoo z z0 z1, dM_e e39]
      · rw [y 0 (by decide) (by decide), st2_o _ (by decide), hN 0 (by omega)]
      · rw [y 0 (by decide) (by decide), st2_o _ (by decide), hN 0 (by omega)]
      · unfold LkP
        rw [k36 7 (by decide) (by decide), y 2 (by decide) (by decide), y 3 (by decide) (by decide), y 41 (by decide) (by decide), x1 2 (by decide) (by omega), x1 3 (by decide) (by omega), x1 41 (by decide) (by omega)]
        exact h.lp
      · rw [st2_self, y 0 (by decide) (by decide), st2_self]
      · rcases g6 with w | w
        · rw [w]
          exact tw_st h.tw (fun k hk => by rw [st2_o _ (by omega), e36]) (by rw [st2_ne _ (by decide), e38]) (by rw [st2_ne _ (by decide), e39]) (by rw [st2_ne _ (by decide), x1 52 (by decide) (by omega)]) (by rw [st2_ne _ (by decide), x1 53 (by decide) (by omega)])
        · left; rw [st2_o _ (by decide)]; exact w
