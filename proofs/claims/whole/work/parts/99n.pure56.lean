/-! ===== the link is kept: pairs told ===== -/
theorem prs_sub {m : Int} {d f : Int → Int} (hO : OK m d) (hF : OK m f) (h : ∀ x y, 0 ≤ x → x < m → 0 ≤ y → y < m → rel d x y = true → rel f x y = true) : prs m d ≤ prs m f ∧ (prs m d = prs m f → ∀ y, 0 ≤ y → y < m → d y = f y) := by
  have hm := hO.1
  have hc : ∀ y, 0 ≤ y → y < m → cnt (d y) ≤ cnt (f y) := fun y y0 y1 => by
    rw [cnt_m hm ⟨(hO.2.1 y y0 (by omega)).1, hO.2.2 y y0 (by omega)⟩, cnt_m hm ⟨(hF.2.1 y y0 (by omega)).1, hF.2.2 y y0 (by omega)⟩]
    exact sumZ_le (fun x x0 x1 => B_mono (fun hq => h x y x0 x1 y0 y1 hq))
  refine ⟨sumZ_le hc, fun he y y0 y1 => ?_⟩
  refine bt_ext (hO.nn ⟨y0, by omega⟩) (hF.nn ⟨y0, by omega⟩) (fun x x0 _ => ?_)
  cases hd : bt (d y) x with
  | true => exact (h x y x0 (rel_lt hO (a := x) (b := y) ⟨y0, by omega⟩ hd) y0 y1 hd).symm
  | false =>
    cases hf : bt (f y) x with
    | false => rfl
    | true =>
      exfalso
      have hxm := rel_lt hF (a := x) (b := y) ⟨y0, by omega⟩ hf
      have h1 : cnt (d y) + 1 ≤ cnt (f y) := by
        rw [cnt_m hm ⟨(hO.2.1 y y0 (by omega)).1, hO.2.2 y y0 (by omega)⟩, cnt_m hm ⟨(hF.2.1 y y0 (by omega)).1, hF.2.2 y y0 (by omega)⟩]
        refine sumZ_le1 (j := x) ⟨x0, hxm⟩ ?_ (fun z z0 z1 => B_mono (fun hq => h z y z0 z1 y0 y1 hq))
        show B (bt (f y) x) ≥ B (bt (d y) x) + 1
        rw [hd, hf]; decide
      have h2 := sumZ_le1 (n := m) (f := fun a => cnt (d a)) (g := fun a => cnt (f a)) (j := y) (x := 1) ⟨y0, y1⟩ h1 hc
      have he' : sumZ m (fun a => cnt (d a)) = sumZ m (fun a => cnt (f a)) := he
      omega
theorem rc_tell {K : KK} {M M2 : MM} {p : Int} {ci cj : Nat} {nm nl m : Int} {d f : Int → Int} (h : RC K M) (hb : OB K M p ci nm m d) (hb2 : OB K M2 p cj nl m f) (hs : ∀ x y, 0 ≤ x → x < m → 0 ≤ y → y < m → rel d x y = true → rel f x y = true) (hx : ∀ x : Int, 55 ≤ x → (x < p ∨ p + 2 < x) → M2 x = M x) (hk : kp M M2) : RC K M2 := by
  have hp := prs_sub hb.ok hb2.ok hs
  have hg := hb.ge
  unfold RC CW
  rw [hk.1, hk.2.1, hk.2.2]
  rcases h with h | ⟨h1, h2, h3, h4⟩
  · exact Or.inl h
  · right
    by_cases he : M 9 4 = p
    · rw [he] at h1 h2 h3 h4 ⊢
      rw [hb.pc] at h3 h4
      rw [hb.n] at h4
      rw [hb2.pc, hb2.n]
      refine ⟨h1, h2, by omega, fun hq => ?_⟩
      have h5 := h4 (by omega)
      have h6 := hp.2 (by omega)
      exact h5.cd (fun c c0 c1 => by
        have hsz := hb.sz
        rw [hb.dat ⟨c0, by omega⟩, hb2.dat ⟨c0, by omega⟩]; exact h6 c c0 c1)
    · have n1 : M 9 4 ≠ p + 1 := fun q => by rw [q, hb.kd] at h2; exact absurd h2.1 (by decide)
      have n2 : M 9 4 ≠ p + 2 := fun q => by rw [q, hb.ku] at h2; exact absurd h2.1 (by decide)
      have n3 : M 9 4 + 1 ≠ p := fun q => by rw [q, hb.k] at h2; exact absurd h2.2 (show ¬ (0 : Nat) = 1 by decide)
      rw [hx _ h1 (by omega), hx _ (by omega) (by omega)]
      exact ⟨h1, h2, h3, h4⟩
/-- told in both -/
theorem LK.tell {K : KK} {M M2 : MM} (h : LK K M) {o : Int} (ho : 0 ≤ o ∧ o < M 36 0) (hk0 : M 37 o = 0) {d : Int → Int} (hw : WF K M2) (hb : OB K M2 (M 1 o) 4 o (M 38 o) d) (hP : PO (M 38 o) d) (hs : ∀ x y, 0 ≤ x → x < M 38 o → 0 ≤ y → y < M 38 o → rel (dM M o) x y = true → rel d x y = true)
    (hd : ∀ y, 0 ≤ y → y < 10 → dM M2 o y = d y) (hd2 : ∀ o', 0 ≤ o' → o' < 8 → o' ≠ o → ∀ y, 0 ≤ y → y < 10 → dM M2 o' y = dM M o' y)
    (hx : ∀ x : Int, x ≠ 0 → x ≠ 2 → x ≠ 36 → x ≠ 39 → (x < M 1 o ∨ M 1 o + 2 < x) → M2 x = M x) (h0 : M2 0 1 = M 0 1 ∧ M2 0 4 = M 0 4) (h36 : ∀ k : Int, k = 0 ∨ k = 4 ∨ k = 5 ∨ k = 14 → M2 36 k = M 36 k) (hlp : LkP M2) (hst : M2 0 11 = M2 36 12) (ht : TW M2) : LK K M2 := by
  have hbo := h.ob ho
  have hg := hbo.ge
  have c8 := h.c8
  have f0 := h36 0 (by omega)
  have ex : ∀ x : Int, x ≠ 0 → x ≠ 2 → x ≠ 36 → x ≠ 39 → x < 55 → M2 x = M x := fun x a b c e f => hx x a b c e (by omega)
  have e38 := ex 38 (by decide) (by decide) (by decide) (by decide) (by decide)
  have e37 := ex 37 (by decide) (by decide) (by decide) (by decide) (by decide)
  have e1 := ex 1 (by decide) (by decide) (by decide) (by decide) (by decide)
  have hr : RC K M2 := rc_tell h.rc hbo hb hs (fun x x0 x1 => hx x (by omega) (by omega) (by omega) (by omega) x1) ⟨ex 9 (by decide) (by decide) (by decide) (by decide) (by decide), ex 10 (by decide) (by decide) (by decide) (by decide) (by decide), ex 11 (by decide) (by decide) (by decide) (by decide) (by decide)⟩
  have hdb : ∀ o', 0 ≤ o' → o' < 8 → ∀ y, 0 ≤ y → y < 10 → (0 ≤ M2 39 (10 * o' + y) ∧ M2 39 (10 * o' + y) < 1024) ∧ M2 39 (10 * o' + y) < p2 (M 38 o') := by
    intro o' o0 o1 y y0 y1
    by_cases q : o' = o
    · have e : M2 39 (10 * o' + y) = d y := by rw [q]; exact hd y y0 y1
      rw [e, q]
      exact ⟨hP.1.2.1 y y0 y1, hP.1.2.2 y y0 y1⟩
    · have e : M2 39 (10 * o' + y) = M 39 (10 * o' + y) := hd2 o' o0 o1 q y y0 y1
      rw [e]
      exact ⟨h.mo.set (by omega), h.mo.2.2.2.2 o' y o0 o1 y0 y1⟩
  refine ⟨⟨hw, by rw [f0]; exact c8, by rw [e38]; exact h.1.2.2.1, fun i i0 i1 => ?_, fun o' b o0 o1 b0 b1 => by rw [e38]; exact (hdb o' o0 o1 b b0 b1).2⟩, by rw [h0.1, f0]; exact h.cnt, fun o' o0 o1 => ?_, fun a b a0 ab b1 => ?_, hlp, ?_, ?_, fun s s0 s1 => ?_, hst, hr, ht⟩
  · have := (hdb (i / 10) (by omega) (by omega) (i % 10) (by omega) (by omega)).1
    rw [show 10 * (i / 10) + i % 10 = i by omega] at this
    exact this
  · rw [f0] at o1
    rw [e1, e37, e38]
    by_cases q : o' = o
    · subst q
      rw [hk0, show kci 0 = 4 from rfl]
      exact ⟨hb.ext (fun y y0 y1 => (hd y y0 y1).symm), hP.ext (fun y y0 y1 => (hd y y0 y1).symm), by omega⟩
    · have hb' := h.ob ⟨o0, o1⟩
      have hg' := hb'.ge
      have hdis : M 1 o' + 2 < M 1 o ∨ M 1 o + 2 < M 1 o' := by
        rcases Int.lt_or_gt_of_ne q with w | w
        · have := h.ld o' o o0 w ho.2; omega
        · have := h.ld o o' ho.1 w o1; omega
      have he := hd2 o' o0 (by omega) q
      exact ⟨(hb'.of hw (hx _ (by omega) (by omega) (by omega) (by omega) (by omega)) (hx _ (by omega) (by omega) (by omega) (by omega) (by omega)) (hx _ (by omega) (by omega) (by omega) (by omega) (by omega))).ext (fun y y0 y1 => (he y y0 y1).symm), (h.po ⟨o0, o1⟩).ext (fun y y0 y1 => (he y y0 y1).symm), h.kd ⟨o0, o1⟩⟩
  · rw [f0] at b1
    rw [e1]
    exact h.ld a b a0 ab b1
  · unfold LH HV; rw [h36 5 (by omega), h36 4 (by omega), f0, e38, ex 40 (by decide) (by decide) (by decide) (by decide) (by decide), ex 4 (by decide) (by decide) (by decide) (by decide) (by decide), ex 5 (by decide) (by decide) (by decide) (by decide) (by decide), h0.2]; exact h.lh
  · unfold LT; rw [h36 14 (by omega), ex 6 (by decide) (by decide) (by decide) (by decide) (by decide), ex 7 (by decide) (by decide) (by decide) (by decide) (by decide), ex 45 (by decide) (by decide) (by decide) (by decide) (by decide)]; exact h.lt
  · rw [ex (28 + 2 * s) (by omega) (by omega) (by omega) (by omega) (by omega), ex (29 + 2 * s) (by omega) (by omega) (by omega) (by omega) (by omega), ex 42 (by decide) (by decide) (by decide) (by decide) (by decide), ex 43 (by decide) (by decide) (by decide) (by decide) (by decide), ex 44 (by decide) (by decide) (by decide) (by decide) (by decide)]; exact h.ls s s0 s1
theorem isTh_e {M M1 : MM} (h36 : M1 36 0 = M 36 0) (h38 : M1 38 = M 38) (o a : Int) : isTh M1 o a = isTh M o a := by unfold isTh isOr; rw [h36, h38]
theorem dM_e {M M1 : MM} (h39 : M1 39 = M 39) (o : Int) : dM M1 o = dM M o := by unfold dM; rw [h39]
/-- pair -/
theorem LK.pair {n n1 n2 : Nat} {K K1 K2 : KK} {M M1 M2 : MM} {o a b : Int} {r1 r2 : Option VV} (h : LK K M) (h1 : paC n K M o a b r1 n1 K1 M1) (hM : MO K1 M1 → paQ M1 o a b n1 K1 r2 n2 K2 M2) : (WF K1 M1 ∧ ∀ x : Int, 36 ≤ x → x ≤ 54 → M1 x = M x) ∧ (MO K1 M1 → (∃ v, r1 = some (0, v) ∧ r2 = some (0, v)) ∧ n1 = n ∧ n2 = n ∧ LK K2 M2) := by
  obtain ⟨rfl, rfl, h1⟩ := h1
  rcases h1 with ⟨c1, rfl, rfl⟩ | ⟨c1, c2, rfl, rfl⟩ | ⟨c1, c2, c3, rfl, N, hN, hNp, rfl⟩ | ⟨c1, c2, c3, rfl, N, hN, hNo, rfl⟩
  · refine ⟨⟨WF.fld 0 11 rfl h.wf, fun x x0 _ => st2_ne _ (by omega)⟩, fun hmo => ?_⟩
    obtain ⟨rfl, rfl, h2⟩ := hM hmo
    have e : (isTh (st2 M 0 11 1) o a && isTh (st2 M 0 11 1) o b && decide (a ≠ b)) = (isTh M o a && isTh M o b && decide (a ≠ b)) := by rw [isTh_e (by rw [st2_ne _ (by decide)]) (st2_ne _ (by decide)), isTh_e (by rw [st2_ne _ (by decide)]) (st2_ne _ (by decide))]
    rw [e, c1] at h2
    rcases h2 with ⟨_, rfl, rfl⟩ | ⟨g, _⟩ | ⟨g, _⟩ | ⟨g, _⟩
    · exact ⟨⟨-1, rfl, rfl⟩, rfl, rfl, h.stat 1⟩
    · cases g
    · cases g
    · cases g
  · refine ⟨⟨WF.fld 0 11 rfl h.wf, fun x x0 _ => st2_ne _ (by omega)⟩, fun hmo => ?_⟩
    obtain ⟨rfl, rfl, h2⟩ := hM hmo
    have e : (isTh (st2 M 0 11 3) o a && isTh (st2 M 0 11 3) o b && decide (a ≠ b)) = (isTh M o a && isTh M o b && decide (a ≠ b)) := by rw [isTh_e (by rw [st2_ne _ (by decide)]) (st2_ne _ (by decide)), isTh_e (by rw [st2_ne _ (by decide)]) (st2_ne _ (by decide))]
    rw [e, c1, st2_ne (x := 37) _ (by decide)] at h2
    rcases h2 with ⟨g, _⟩ | ⟨_, _, rfl, rfl⟩ | ⟨_, g, _⟩ | ⟨_, g, _⟩
    · cases g
    · exact ⟨⟨-1, rfl, rfl⟩, rfl, rfl, h.stat 3⟩
    · exact absurd g c2
    · exact absurd g c2
  · -- a round
    have ha := isTh_of h.mo (show isTh M o a = true by rw [Bool.and_eq_true, Bool.and_eq_true] at c1; exact c1.1.1)
    have hb := isTh_of h.mo (show isTh M o b = true by rw [Bool.and_eq_true, Bool.and_eq_true] at c1; exact c1.1.2)
    have ho : 0 ≤ o ∧ o < M 36 0 := by have := ha.2.2.2; unfold isOr at this; rw [Bool.and_eq_true, decide_eq_true_eq, decide_eq_true_eq] at this; exact this
    have hP := h.po ho
    have hdst := dst_below hP ⟨ha.2.1.1, ha.2.2.1⟩ ⟨hb.2.1.1, hb.2.2.1⟩ c3
    have hsz := hP.1.1
    have x1 : ∀ x : Int, x ≠ 0 → x ≠ 2 → x ≠ 3 → st2 N 0 11 3 x = M x := fun x p q r => by rw [st2_ne _ p]; exact hN.1 x q r
    have w1 : WF K1 (st2 N 0 11 3) := WF.fld 0 11 rfl (hN.wf h.wf)
    refine ⟨⟨w1, fun x x0 _ => x1 x (by omega) (by omega) (by omega)⟩, fun hmo => ?_⟩
    obtain ⟨rfl, rfl, h2⟩ := hM hmo
    have e36 := x1 36 (by decide) (by decide) (by decide)
    have e38 := x1 38 (by decide) (by decide) (by decide)
    have e39 := x1 39 (by decide) (by decide) (by decide)
    have e37 := x1 37 (by decide) (by decide) (by decide)
    have e : (isTh (st2 N 0 11 3) o a && isTh (st2 N 0 11 3) o b && decide (a ≠ b)) = (isTh M o a && isTh M o b && decide (a ≠ b)) := by rw [isTh_e (by rw [e36]) e38, isTh_e (by rw [e36]) e38]
    rw [e, c1, e37, e38, dM_e e39, c3] at h2
    rcases h2 with ⟨g, _⟩ | ⟨_, g, _⟩ | ⟨_, _, _, rfl, N2, hN2, hrd, rfl⟩ | ⟨_, _, g, _⟩
    · cases g
    · exact absurd c2 g
    · refine ⟨⟨-1, rfl, rfl⟩, rfl, rfl, ?_⟩
      have hx : ∀ x : Int, x ≠ 0 → x ≠ 2 → x ≠ 3 → x ≠ 36 → x ≠ 41 → x ≠ 46 → st2 N2 36 12 3 x = M x := fun x p q r t u v => by
        rw [st2_ne _ t, hN2.1 x v u t]; exact x1 x p q r
      have k36 : ∀ k : Int, k ≠ 7 → k ≠ 12 → st2 N2 36 12 3 36 k = M 36 k := fun k p q => by rw [st2_o _ q, hN2.2 k p, e36]
      have k7 : st2 N2 36 12 3 36 7 = dst (M 38 o) (dM M o) b a + 1 := by rw [st2_o _ (by decide)]; exact hrd.1
      have y : ∀ x : Int, x ≠ 36 → x ≠ 41 → x ≠ 46 → st2 N2 36 12 3 x = st2 N 0 11 3 x := fun x t u v => by rw [st2_ne _ t, hN2.1 x v u t]
      have w2 : WF K2 (st2 N2 36 12 3) := WF.fld 36 12 rfl (MO.off_sr hmo hN2).1
      have hlo := lo_same (M2 := st2 N2 36 12 3) h w2 (fun x hx55 => hx x (by omega) (by omega) (by omega) (by omega) (by omega) (by omega)) (by rw [k36 0 (by decide) (by decide)]; exact Int.le_refl _) (fun o o0 o1 => by rw [hx 1 (by decide) (by decide) (by decide) (by decide) (by decide) (by decide)]) (hx 37 (by decide) (by decide) (by decide) (by decide) (by decide) (by decide)) (hx 38 (by decide) (by decide) (by decide) (by decide) (by decide) (by decide)) (hx 39 (by decide) (by decide) (by decide) (by decide) (by decide) (by decide))
      have n2 : st2 N 0 11 3 2 1 = dst (M 38 o) (dM M o) b a + 1 := by rw [st2_ne _ (by decide)]; exact hNp.1
      have n0 : ∀ k : Int, k ≠ 11 → st2 N 0 11 3 0 k = M 0 k := fun k p => by rw [st2_o _ p, hN.1 0 (by decide) (by decide)]
      refine ⟨mo_same h w2 (by rw [k36 0 (by decide) (by decide)]; exact h.c8) (hx 38 (by decide) (by decide) (by decide) (by decide) (by decide) (by decide)) (hx 39 (by decide) (by decide) (by decide) (by decide) (by decide) (by decide)), by rw [y 0 (by decide) (by decide) (by decide), n0 1 (by decide), k36 0 (by decide) (by decide)]; exact h.cnt, hlo.1, hlo.2, ⟨⟨by rw [y 2 (by decide) (by decide) (by decide), n2, k7], by rw [k7]; omega, by rw [k7]; omega⟩, fun i i0 i1 => ?_⟩, ?_, ?_, fun s s0 s1 => ?_, ?_, h.rc.kp (fun x hx55 => hx x (by omega) (by omega) (by omega) (by omega) (by omega) (by omega)) ⟨hx 9 (by decide) (by decide) (by decide) (by decide) (by decide) (by decide), hx 10 (by decide) (by decide) (by decide) (by decide) (by decide) (by decide), hx 11 (by decide) (by decide) (by decide) (by decide) (by decide) (by decide)⟩, tw_st h.tw (fun k hk => k36 k (by omega) (by omega)) (hx 38 (by decide) (by decide) (by decide) (by decide) (by decide) (by decide)) (hx 39 (by decide) (by decide) (by decide) (by decide) (by decide) (by decide)) (hx 52 (by decide) (by decide) (by decide) (by decide) (by decide) (by decide)) (hx 53 (by decide) (by decide) (by decide) (by decide) (by decide) (by decide))⟩
      · rw [k7] at i1
        rw [y 3 (by decide) (by decide) (by decide), st2_ne _ (by decide), st2_ne _ (by decide), hNp.2 i i0 (by omega), hrd.2 i i0 (by omega)]
      · unfold LH HV; rw [k36 5 (by decide) (by decide), k36 4 (by decide) (by decide), k36 0 (by decide) (by decide), hx 38 (by decide) (by decide) (by decide) (by decide) (by decide) (by decide), hx 40 (by decide) (by decide) (by decide) (by decide) (by decide) (by decide), hx 4 (by decide) (by decide) (by decide) (by decide) (by decide) (by decide), hx 5 (by decide) (by decide) (by decide) (by decide) (by decide) (by decide), y 0 (by decide) (by decide) (by decide), n0 4 (by decide)]; exact h.lh
      · unfold LT; rw [k36 14 (by decide) (by decide), hx 6 (by decide) (by decide) (by decide) (by decide) (by decide) (by decide), hx 7 (by decide) (by decide) (by decide) (by decide) (by decide) (by decide), hx 45 (by decide) (by decide) (by decide) (by decide) (by decide) (by decide)]; exact h.lt
      · rw [hx (28 + 2 * s) (by omega) (by omega) (by omega) (by omega) (by omega) (by omega), hx (29 + 2 * s) (by omega) (by omega) (by omega) (by omega) (by omega) (by omega), hx 42 (by decide) (by decide) (by decide) (by decide) (by decide) (by decide), hx 43 (by decide) (by decide) (by decide) (by decide) (by decide) (by decide), hx 44 (by decide) (by decide) (by decide) (by decide) (by decide) (by decide)]; exact h.ls s s0 s1
      · rw [st2_self, y 0 (by decide) (by decide) (by decide), st2_self]
    · cases g
  · -- told
    have hta : isTh M o a = true := by rw [Bool.and_eq_true, Bool.and_eq_true] at c1; exact c1.1.1
    have htb : isTh M o b = true := by rw [Bool.and_eq_true, Bool.and_eq_true] at c1; exact c1.1.2
    have hne : a ≠ b := by rw [Bool.and_eq_true, decide_eq_true_eq] at c1; exact c1.2
    have ha := isTh_of h.mo hta
    have hb := isTh_of h.mo htb
    have ho : 0 ≤ o ∧ o < M 36 0 := by have := ha.2.2.2; unfold isOr at this; rw [Bool.and_eq_true, decide_eq_true_eq, decide_eq_true_eq] at this; exact this
    have hP := h.po ho
    have hbo := h.ob ho
    have hg := hbo.ge
    have hsz := hP.1.1
    have c8 := h.c8
    have x1 : ∀ x : Int, x ≠ 0 → x ≠ 2 → (x < M 1 o ∨ M 1 o + 2 < x) → st2 N 0 11 0 x = M x := fun x p q r => by rw [st2_ne _ p, hN x r, st2_ne _ q]
    have w1 : WF K1 (st2 N 0 11 0) := WF.fld 0 11 rfl hNo.wf
    refine ⟨⟨w1, fun x x0 x1' => x1 x (by omega) (by omega) (by omega)⟩, fun hmo => ?_⟩
    obtain ⟨rfl, rfl, h2⟩ := hM hmo
    have e36 := x1 36 (by decide) (by decide) (by omega)
    have e38 := x1 38 (by decide) (by decide) (by omega)
    have e39 := x1 39 (by decide) (by decide) (by omega)
    have e37 := x1 37 (by decide) (by decide) (by omega)
    have e : (isTh (st2 N 0 11 0) o a && isTh (st2 N 0 11 0) o b && decide (a ≠ b)) = (isTh M o a && isTh M o b && decide (a ≠ b)) := by rw [isTh_e (by rw [e36]) e38, isTh_e (by rw [e36]) e38]
    rw [e, c1, e37, dM_e e39, c3] at h2
    rcases h2 with ⟨g, _⟩ | ⟨_, g, _⟩ | ⟨_, _, g, _⟩ | ⟨_, _, _, rfl, rfl⟩
    · cases g
    · exact absurd c2 g
    · cases g
    · refine ⟨⟨_, rfl, rfl⟩, rfl, rfl, ?_⟩
      have hMo7 : MO K2 (st2 (st2 N 0 11 0) 36 7 0) := hmo.fl (by decide) rfl
      have w2 : WF K2 (st2 (tlM (st2 (st2 N 0 11 0) 36 7 0) o a b) 36 12 0) := WF.fld 36 12 rfl (hMo7.tl (b := b) ⟨ho.1, by omega⟩ (by rw [st2_ne _ (show (38 : Int) ≠ 36 by decide), e38]; exact ⟨ha.2.1.1, ha.2.2.1⟩)).1
      have y : ∀ x : Int, x ≠ 36 → x ≠ 39 → st2 (tlM (st2 (st2 N 0 11 0) 36 7 0) o a b) 36 12 0 x = st2 N 0 11 0 x := fun x p q => by rw [st2_ne _ p, tlM_x ⟨p, q⟩, st2_ne _ p]
      have k36 : ∀ k : Int, k ≠ 7 → k ≠ 12 → k ≠ 21 → st2 (tlM (st2 (st2 N 0 11 0) 36 7 0) o a b) 36 12 0 36 k = M 36 k := fun k p q r => by
        rw [st2_o _ q]; unfold tlM; rw [st2_o _ r, setA_ne _ (by decide), st2_o _ p, e36]
      have hd38 : st2 (st2 N 0 11 0) 36 7 0 38 = M 38 := by rw [st2_ne _ (by decide), e38]
      have hdM : ∀ o', dM (st2 (st2 N 0 11 0) 36 7 0) o' = dM M o' := fun o' => dM_e (by rw [st2_ne _ (by decide), e39]) o'
      have hd1 := tl1_eq hP ⟨ha.2.1.1, ha.2.2.1⟩ ⟨hb.2.1.1, hb.2.2.1⟩
      have hNo' : OB K2 (st2 (tlM (st2 (st2 N 0 11 0) 36 7 0) o a b) 36 12 0) (M 1 o) 4 o (M 38 o) (tlD (M 38 o) (dM M o) a b) := (hNo.of w2 (by rw [y _ (by omega) (by omega), st2_ne _ (by omega)]) (by rw [y _ (by omega) (by omega), st2_ne _ (by omega)]) (by rw [y _ (by omega) (by omega), st2_ne _ (by omega)])).ext hd1
      refine h.tell ho c2 w2 hNo' (po_tl hP ⟨ha.2.1.1, ha.2.2.1⟩ ⟨hb.2.1.1, hb.2.2.1⟩ hne c3) (fun x z x0 x1' z0 z1 hr => by rw [rel_tlD hP.1 ⟨ha.2.1.1, ha.2.2.1⟩ x0 ⟨z0, z1⟩, hr]; rfl) (fun z z0 z1 => ?_) (fun o' o0 o1 hoo z z0 z1 => ?_) (fun x p q r t u => by rw [y x r t, x1 x p q u]) ⟨?_, ?_⟩ (fun k hk => k36 k (by omega) (by omega) (by omega)) ?_ ?_ ?_
      · have := dM_tl (M := st2 (st2 N 0 11 0) 36 7 0) (o := o) (a := a) (b := b) z z0 z1
        rw [hd38, hdM] at this
        rw [← this]
        show st2 _ 36 12 0 39 _ = _
        rw [st2_ne _ (by decide)]
        rfl
      · have := dM_tlo (M := st2 (st2 N 0 11 0) 36 7 0) (o := o) (a := a) (b := b) (o' := o') hoo (by rw [hd38]; exact hsz.2) z z0 z1
        rw [hdM] at this
        rw [← this]
        show st2 _ 36 12 0 39 _ = _
        rw [st2_ne _ (by decide)]
        rfl
      · rw [y 0 (by decide) (by decide), st2_o _ (by decide), hN 0 (by omega), st2_ne _ (by decide)]
      · rw [y 0 (by decide) (by decide), st2_o _ (by decide), hN 0 (by omega), st2_ne _ (by decide)]
      · have k7 : st2 (tlM (st2 (st2 N 0 11 0) 36 7 0) o a b) 36 12 0 36 7 = 0 := by rw [st2_o _ (by decide)]; unfold tlM; rw [st2_o _ (by decide), setA_ne _ (by decide), st2_self]
        refine ⟨⟨?_, by omega, by omega⟩, fun i i0 i1 => by omega⟩
        rw [k7, y 2 (by decide) (by decide), st2_ne _ (by decide), hN 2 (by omega), st2_self]
      · rw [st2_self, y 0 (by decide) (by decide), st2_self]
      · left; rw [st2_o _ (by decide)]; unfold tlM; rw [st2_self]
