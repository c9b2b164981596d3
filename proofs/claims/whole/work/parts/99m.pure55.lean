/-! ===== the link is kept: the hand, traces, sheets ===== -/
theorem mo_same {K : KK} {M M2 : MM} (h : LK K M) (hw : WF K M2) (hc : 0 ≤ M2 36 0 ∧ M2 36 0 ≤ 8) (h38 : M2 38 = M 38) (h39 : M2 39 = M 39) : MO K M2 := ⟨hw, hc, by rw [h38]; exact h.1.2.2.1, by rw [h39]; exact h.1.2.2.2.1, by rw [h38, h39]; exact h.1.2.2.2.2⟩
theorem lo_same {K : KK} {M M2 : MM} (h : LK K M) (hw : WF K M2) (h55 : ∀ x : Int, 55 ≤ x → M2 x = M x) (hle : M2 36 0 ≤ M 36 0) (h1 : ∀ o, 0 ≤ o → o < M2 36 0 → M2 1 o = M 1 o) (h37 : M2 37 = M 37) (h38 : M2 38 = M 38) (h39 : M2 39 = M 39) : LO K M2 ∧ LD M2 := by
  have ed : ∀ o, dM M2 o = dM M o := fun o => by unfold dM; rw [h39]
  refine ⟨fun o o0 o1 => ?_, fun o o' o0 oo o1 => ?_⟩
  · rw [h1 o o0 o1, h37, h38, ed]
    have hb := h.ob (o := o) ⟨o0, by omega⟩
    have hg := hb.ge
    exact ⟨hb.of hw (h55 _ (by omega)) (h55 _ (by omega)) (h55 _ (by omega)), h.po ⟨o0, by omega⟩, h.kd ⟨o0, by omega⟩⟩
  · rw [h1 o o0 (by omega), h1 o' (by omega) o1]
    exact h.ld o o' o0 oo (by omega)
/-- clear -/
theorem LK.clr {K : KK} {M : MM} (h : LK K M) : LK K (st2 (st2 (st2 (ehM M) 0 11 0) 36 5 0) 36 12 0) ∧ WF K (st2 (ehM M) 0 11 0) ∧ ∀ x : Int, 36 ≤ x → x ≤ 54 → st2 (ehM M) 0 11 0 x = M x := by
  have w1 : WF K (st2 (ehM M) 0 11 0) := WF.fld 0 11 rfl (WF.fld 0 4 rfl (WF.fld 4 1 rfl h.wf))
  have hx : ∀ x : Int, x ≠ 0 → x ≠ 4 → x ≠ 36 → st2 (st2 (st2 (ehM M) 0 11 0) 36 5 0) 36 12 0 x = M x := fun x a b c => by
    rw [st2_ne _ c, st2_ne _ c, st2_ne _ a]; unfold ehM; rw [st2_ne _ a, st2_ne _ b]
  have h36 : ∀ k : Int, k ≠ 12 → k ≠ 5 → st2 (st2 (st2 (ehM M) 0 11 0) 36 5 0) 36 12 0 36 k = M 36 k := fun k a b => by
    rw [st2_o _ a, st2_o _ b, st2_ne _ (show (36 : Int) ≠ 0 by decide)]; unfold ehM; rw [st2_ne _ (by decide), st2_ne _ (by decide)]
  have h365 : st2 (st2 (st2 (ehM M) 0 11 0) 36 5 0) 36 12 0 36 5 = 0 := by simp [st2]
  have h00 : ∀ k : Int, k ≠ 11 → k ≠ 4 → st2 (st2 (st2 (ehM M) 0 11 0) 36 5 0) 36 12 0 0 k = M 0 k := fun k a b => by simp [st2, ehM, a, b]
  have w2 : WF K (st2 (st2 (st2 (ehM M) 0 11 0) 36 5 0) 36 12 0) := WF.fld 36 12 rfl (WF.fld 36 5 rfl w1)
  have hlo := lo_same (M2 := st2 (st2 (st2 (ehM M) 0 11 0) 36 5 0) 36 12 0) h w2 (fun x hx55 => hx x (by omega) (by omega) (by omega)) (by rw [h36 0 (by decide) (by decide)]; exact Int.le_refl _) (fun o _ _ => by rw [hx 1 (by decide) (by decide) (by decide)]) (hx 37 (by decide) (by decide) (by decide)) (hx 38 (by decide) (by decide) (by decide)) (hx 39 (by decide) (by decide) (by decide))
  refine ⟨⟨mo_same h w2 (by rw [h36 0 (by decide) (by decide)]; exact h.c8) (hx 38 (by decide) (by decide) (by decide)) (hx 39 (by decide) (by decide) (by decide)), by rw [h00 1 (by decide) (by decide), h36 0 (by decide) (by decide)]; exact h.cnt, hlo.1, hlo.2, ?_, ⟨⟨by rw [h365]; omega, fun z => by rw [h365] at z; omega, fun k k0 k1 => by rw [h365] at k1; omega, fun j k _ _ k1 => by rw [h365] at k1; omega⟩, by rw [h365]; simp [st2, ehM], fun i i0 i1 => by rw [h365] at i1; omega, by rw [if_pos h365]; simp [st2, ehM]⟩, ?_, fun s s0 s1 => ?_, by simp [st2], h.rc.kp (fun x hx55 => hx x (by omega) (by omega) (by omega)) ⟨hx 9 (by decide) (by decide) (by decide), hx 10 (by decide) (by decide) (by decide), hx 11 (by decide) (by decide) (by decide)⟩, tw_st h.tw (fun k hk => h36 k (by omega) (by omega)) (hx 38 (by decide) (by decide) (by decide)) (hx 39 (by decide) (by decide) (by decide)) (hx 52 (by decide) (by decide) (by decide)) (hx 53 (by decide) (by decide) (by decide))⟩, w1, fun x x0 x1 => by rw [st2_ne _ (by omega)]; unfold ehM; rw [st2_ne _ (by omega), st2_ne _ (by omega)]⟩
  · unfold LkP; rw [h36 7 (by decide) (by decide), hx 2 (by decide) (by decide) (by decide), hx 3 (by decide) (by decide) (by decide), hx 41 (by decide) (by decide) (by decide)]; exact h.lp
  · unfold LT; rw [h36 14 (by decide) (by decide), hx 6 (by decide) (by decide) (by decide), hx 7 (by decide) (by decide) (by decide), hx 45 (by decide) (by decide) (by decide)]; exact h.lt
  · rw [hx (28 + 2 * s) (by omega) (by omega) (by omega), hx (29 + 2 * s) (by omega) (by omega) (by omega), hx 42 (by decide) (by decide) (by decide), hx 43 (by decide) (by decide) (by decide), hx 44 (by decide) (by decide) (by decide)]; exact h.ls s s0 s1
/-- drop -/
def dr1 (M : MM) : MM := st2 (if M 0 4 = M 36 0 - 1 then ehM (drC M) else drC M) 0 11 0
def dr2 (M : MM) : MM := st2 (st2 (st2 (st2 (st2 M 36 0 (M 36 0 - 1)) 36 7 0) 36 5 (if M 36 4 = M 36 0 - 1 then 0 else M 36 5)) 36 21 0) 36 12 0
theorem LK.drp {K : KK} {M : MM} (h : LK K M) (hc : M 36 0 ≠ 0) : LK K (dr2 (dr1 M)) ∧ WF K (dr1 M) ∧ ∀ x : Int, 36 ≤ x → x ≤ 54 → dr1 M x = M x := by
  have c8 := h.c8
  have hcn := h.cnt
  have wd : WF K (drC M) := WF.fld 2 1 rfl (WF.arr 1 rfl (WF.fld 0 1 rfl h.wf))
  have w1 : WF K (dr1 M) := by
    unfold dr1
    split
    · exact WF.fld 0 11 rfl (WF.fld 0 4 rfl (WF.fld 4 1 rfl wd))
    · exact WF.fld 0 11 rfl wd
  have w2 : WF K (dr2 (dr1 M)) := WF.fld 36 12 rfl (WF.fld 36 21 rfl (WF.fld 36 5 rfl (WF.fld 36 7 rfl (WF.fld 36 0 rfl w1))))
  have x1 : ∀ x : Int, x ≠ 0 → x ≠ 1 → x ≠ 2 → x ≠ 4 → dr1 M x = M x := fun x a b c e => by
    unfold dr1
    rw [st2_ne _ a]
    have hd : drC M x = M x := by unfold drC; rw [st2_ne _ c, st2_ne _ b, st2_ne _ a]
    split
    · unfold ehM; rw [st2_ne _ a, st2_ne _ e, hd]
    · exact hd
  have hx : ∀ x : Int, x ≠ 0 → x ≠ 1 → x ≠ 2 → x ≠ 4 → x ≠ 36 → dr2 (dr1 M) x = M x := fun x a b c e f => by
    unfold dr2; rw [st2_ne _ f, st2_ne _ f, st2_ne _ f, st2_ne _ f, st2_ne _ f]; exact x1 x a b c e
  have e36 : dr1 M 36 = M 36 := x1 36 (by decide) (by decide) (by decide) (by decide)
  have k0 : dr2 (dr1 M) 36 0 = M 36 0 - 1 := by unfold dr2; simp [st2]; rw [e36]
  have k7 : dr2 (dr1 M) 36 7 = 0 := by unfold dr2; simp [st2]
  have k5 : dr2 (dr1 M) 36 5 = if M 36 4 = M 36 0 - 1 then 0 else M 36 5 := by unfold dr2; simp [st2]; rw [e36]
  have k4 : dr2 (dr1 M) 36 4 = M 36 4 := by unfold dr2; simp [st2]; rw [e36]
  have k14 : dr2 (dr1 M) 36 14 = M 36 14 := by unfold dr2; simp [st2]; rw [e36]
  have k12 : dr2 (dr1 M) 36 12 = 0 := by unfold dr2; simp [st2]
  have k21 : dr2 (dr1 M) 36 21 = 0 := by unfold dr2; simp [st2]
  have y : ∀ x : Int, x ≠ 36 → dr2 (dr1 M) x = dr1 M x := fun x f => by
    unfold dr2; rw [st2_ne _ f, st2_ne _ f, st2_ne _ f, st2_ne _ f, st2_ne _ f]
  have d01 : dr1 M 0 1 = M 36 0 - 1 := by unfold dr1; split <;> simp [st2, ehM, drC] <;> omega
  have d011 : dr1 M 0 11 = 0 := by unfold dr1; simp [st2]
  have d04 : dr1 M 0 4 = if M 0 4 = M 36 0 - 1 then -1 else M 0 4 := by
    unfold dr1
    by_cases q : M 0 4 = M 36 0 - 1
    · rw [if_pos q, if_pos q]; simp [st2, ehM, drC]
    · rw [if_neg q, if_neg q]; simp [st2, drC]
  have d1 : ∀ o, o ≠ M 36 0 - 1 → dr1 M 1 o = M 1 o := fun o ho => by
    have hd : drC M 1 o = M 1 o := by unfold drC; rw [st2_ne _ (show (1 : Int) ≠ 2 by decide), hcn, st2_o _ ho, st2_ne _ (show (1 : Int) ≠ 0 by decide)]
    unfold dr1
    rw [st2_ne _ (show (1 : Int) ≠ 0 by decide)]
    split
    · unfold ehM; rw [st2_ne _ (show (1 : Int) ≠ 0 by decide), st2_ne _ (show (1 : Int) ≠ 4 by decide), hd]
    · exact hd
  have d2 : dr1 M 2 1 = 0 := by unfold dr1; split <;> simp [st2, ehM, drC]
  have d41 : dr1 M 4 1 = if M 0 4 = M 36 0 - 1 then 0 else M 4 1 := by
    unfold dr1
    by_cases q : M 0 4 = M 36 0 - 1
    · rw [if_pos q, if_pos q]; simp [st2, ehM, drC]
    · rw [if_neg q, if_neg q]; simp [st2, drC]
  have hlo := lo_same (M2 := dr2 (dr1 M)) h w2 (fun x hx55 => hx x (by omega) (by omega) (by omega) (by omega) (by omega)) (by rw [k0]; omega) (fun o o0 o1 => by rw [k0] at o1; rw [y 1 (by decide)]; exact d1 o (by omega)) (hx 37 (by decide) (by decide) (by decide) (by decide) (by decide)) (hx 38 (by decide) (by decide) (by decide) (by decide) (by decide)) (hx 39 (by decide) (by decide) (by decide) (by decide) (by decide))
  refine ⟨⟨mo_same h w2 (by rw [k0]; omega) (hx 38 (by decide) (by decide) (by decide) (by decide) (by decide)) (hx 39 (by decide) (by decide) (by decide) (by decide) (by decide)), by rw [y 0 (by decide), d01, k0], hlo.1, hlo.2, ⟨⟨by rw [y 2 (by decide), d2, k7], by rw [k7]; omega, by rw [k7]; omega⟩, fun i _ i1 => by rw [k7] at i1; omega⟩, ?_, ?_, fun s s0 s1 => ?_, by rw [y 0 (by decide), d011, k12], h.rc.kp (fun x hx55 => hx x (by omega) (by omega) (by omega) (by omega) (by omega)) ⟨hx 9 (by decide) (by decide) (by decide) (by decide) (by decide), hx 10 (by decide) (by decide) (by decide) (by decide) (by decide), hx 11 (by decide) (by decide) (by decide) (by decide) (by decide)⟩, Or.inl k21⟩, w1, fun x x0 _ => x1 x (by omega) (by omega) (by omega) (by omega)⟩
  · obtain ⟨⟨a1, a2, a3, a4⟩, a5, a6, a7⟩ := h.lh
    unfold LH HV
    rw [k5, k4, k0, hx 40 (by decide) (by decide) (by decide) (by decide) (by decide), hx 38 (by decide) (by decide) (by decide) (by decide) (by decide), hx 5 (by decide) (by decide) (by decide) (by decide) (by decide), y 0 (by decide), y 4 (by decide), d04, d41]
    by_cases hz : M 36 5 = 0
    · rw [if_pos hz] at a7
      have e4 : ¬ ((-1 : Int) = M 36 0 - 1) := by omega
      rw [a7, if_neg e4, if_neg e4, a5, hz, show (if M 36 4 = M 36 0 - 1 then (0 : Int) else 0) = 0 by split <;> rfl]
      exact ⟨⟨by omega, fun z => by omega, fun k k0 k1 => by omega, fun j k _ _ k1 => by omega⟩, rfl, fun i _ i1 => by omega, (if_pos rfl).symm⟩
    · rw [if_neg hz] at a7
      rw [a7]
      by_cases q : M 36 4 = M 36 0 - 1
      · rw [if_pos q, if_pos q, if_pos q]
        exact ⟨⟨by omega, fun z => by omega, fun k k0 k1 => by omega, fun j k _ _ k1 => by omega⟩, rfl, fun i _ i1 => by omega, (if_pos rfl).symm⟩
      · rw [if_neg q, if_neg q, if_neg q, if_neg hz]
        exact ⟨⟨a1, fun z => by have := a2 z; omega, a3, a4⟩, a5, a6, rfl⟩
  · unfold LT; rw [k14, hx 6 (by decide) (by decide) (by decide) (by decide) (by decide), hx 7 (by decide) (by decide) (by decide) (by decide) (by decide), hx 45 (by decide) (by decide) (by decide) (by decide) (by decide)]; exact h.lt
  · rw [hx (28 + 2 * s) (by omega) (by omega) (by omega) (by omega) (by omega), hx (29 + 2 * s) (by omega) (by omega) (by omega) (by omega) (by omega), hx 42 (by decide) (by decide) (by decide) (by decide) (by decide), hx 43 (by decide) (by decide) (by decide) (by decide) (by decide), hx 44 (by decide) (by decide) (by decide) (by decide) (by decide)]; exact h.ls s s0 s1
/-- lay -/
def la1 (M : MM) (o t : Int) : MM := st2 (st2 (st2 (st2 M 0 4 o) 5 (M 4 1) t) 4 1 (M 4 1 + 1)) 0 11 0
theorem LK.lyd {K : KK} {M : MM} (h : LK K M) {o t : Int} (ht : isTh M o t = true) (hn : hadH M o t = false) : LK K (wasLay (la1 M o t) o t) ∧ WF K (la1 M o t) ∧ ∀ x : Int, 36 ≤ x → x ≤ 54 → la1 M o t x = M x := by
  have hq := isTh_of h.mo ht
  have ho : 0 ≤ o ∧ o < M 36 0 := by have := hq.2.2.2; unfold isOr at this; rw [Bool.and_eq_true, decide_eq_true_eq, decide_eq_true_eq] at this; exact this
  have hlt := h.lh.1.lt h.mo ht hn
  have c8 := h.c8
  have w1 : WF K (la1 M o t) := WF.fld 0 11 rfl (WF.fld 4 1 rfl (WF.arr 5 rfl (WF.fld 0 4 rfl h.wf)))
  have w2 : WF K (wasLay (la1 M o t) o t) := WF.fld 36 12 rfl (WF.fld 36 5 rfl (WF.arr 40 rfl (WF.fld 36 4 rfl w1)))
  have x1 : ∀ x : Int, x ≠ 0 → x ≠ 4 → x ≠ 5 → la1 M o t x = M x := fun x a b c => by
    unfold la1; rw [st2_ne _ a, st2_ne _ b, st2_ne _ c, st2_ne _ a]
  have hx : ∀ x : Int, x ≠ 0 → x ≠ 4 → x ≠ 5 → x ≠ 36 → x ≠ 40 → wasLay (la1 M o t) o t x = M x := fun x a b c e f => by
    unfold wasLay; rw [st2_ne _ e, st2_ne _ e, st2_ne _ f, st2_ne _ e]; exact x1 x a b c
  have e36 : la1 M o t 36 = M 36 := x1 36 (by decide) (by decide) (by decide)
  have e40 : la1 M o t 40 = M 40 := x1 40 (by decide) (by decide) (by decide)
  have k36 : ∀ k : Int, k ≠ 4 → k ≠ 5 → k ≠ 12 → wasLay (la1 M o t) o t 36 k = M 36 k := fun k a b c => by
    unfold wasLay; rw [st2_o _ c, st2_o _ b, st2_ne _ (by decide), st2_o _ a, e36]
  have k5 : wasLay (la1 M o t) o t 36 5 = M 36 5 + 1 := by unfold wasLay; simp [st2]; rw [e36]
  have k4 : wasLay (la1 M o t) o t 36 4 = o := by unfold wasLay; simp [st2]
  have k12 : wasLay (la1 M o t) o t 36 12 = 0 := by unfold wasLay; simp [st2]
  have k40 : ∀ k : Int, wasLay (la1 M o t) o t 40 k = if k = M 36 5 then t else M 40 k := fun k => by
    unfold wasLay; rw [st2_ne _ (by decide), st2_ne _ (by decide)]
    show (if (40 : Int) = 40 then (if k = la1 M o t 36 5 then t else st2 (la1 M o t) 36 4 o 40 k) else _) = _
    rw [if_pos rfl, st2_ne _ (by decide), e40, e36]
  have y : ∀ x : Int, x ≠ 36 → x ≠ 40 → wasLay (la1 M o t) o t x = la1 M o t x := fun x e f => by
    unfold wasLay; rw [st2_ne _ e, st2_ne _ e, st2_ne _ f, st2_ne _ e]
  have d41 : la1 M o t 4 1 = M 36 5 + 1 := by unfold la1; simp [st2]; have := h.lh.2.1; omega
  have d5 : ∀ k : Int, la1 M o t 5 k = if k = M 36 5 then t else M 5 k := fun k => by
    unfold la1
    rw [st2_ne _ (by decide), st2_ne _ (by decide)]
    show (if (5 : Int) = 5 then (if k = M 4 1 then t else st2 M 0 4 o 5 k) else _) = _
    rw [if_pos rfl, st2_ne _ (by decide), h.lh.2.1]
  have d04 : la1 M o t 0 4 = o := by unfold la1; simp [st2]
  have d01 : la1 M o t 0 1 = M 0 1 := by unfold la1; simp [st2]
  have d011 : la1 M o t 0 11 = 0 := by unfold la1; simp [st2]
  have hlo := lo_same (M2 := wasLay (la1 M o t) o t) h w2 (fun x hx55 => hx x (by omega) (by omega) (by omega) (by omega) (by omega)) (by rw [k36 0 (by decide) (by decide) (by decide)]; exact Int.le_refl _) (fun o o0 o1 => by rw [hx 1 (by decide) (by decide) (by decide) (by decide) (by decide)]) (hx 37 (by decide) (by decide) (by decide) (by decide) (by decide)) (hx 38 (by decide) (by decide) (by decide) (by decide) (by decide)) (hx 39 (by decide) (by decide) (by decide) (by decide) (by decide))
  refine ⟨⟨mo_same h w2 (by rw [k36 0 (by decide) (by decide) (by decide)]; exact c8) (hx 38 (by decide) (by decide) (by decide) (by decide) (by decide)) (hx 39 (by decide) (by decide) (by decide) (by decide) (by decide)), by rw [y 0 (by decide) (by decide), d01, k36 0 (by decide) (by decide) (by decide)]; exact h.cnt, hlo.1, hlo.2, ?_, ?_, ?_, fun s s0 s1 => ?_, by rw [y 0 (by decide) (by decide), d011, k12], h.rc.kp (fun x hx55 => hx x (by omega) (by omega) (by omega) (by omega) (by omega)) ⟨hx 9 (by decide) (by decide) (by decide) (by decide) (by decide), hx 10 (by decide) (by decide) (by decide) (by decide) (by decide), hx 11 (by decide) (by decide) (by decide) (by decide) (by decide)⟩, tw_st h.tw (fun k hk => k36 k (by omega) (by omega) (by omega)) (hx 38 (by decide) (by decide) (by decide) (by decide) (by decide)) (hx 39 (by decide) (by decide) (by decide) (by decide) (by decide)) (hx 52 (by decide) (by decide) (by decide) (by decide) (by decide)) (hx 53 (by decide) (by decide) (by decide) (by decide) (by decide))⟩, w1, fun x x0 _ => x1 x (by omega) (by omega) (by omega)⟩
  · unfold LkP; rw [k36 7 (by decide) (by decide) (by decide), hx 2 (by decide) (by decide) (by decide) (by decide) (by decide), hx 3 (by decide) (by decide) (by decide) (by decide) (by decide), hx 41 (by decide) (by decide) (by decide) (by decide) (by decide)]; exact h.lp
  · obtain ⟨⟨a1, a2, a3, a4⟩, a5, a6, a7⟩ := h.lh
    unfold hadH inH at hn
    simp only [Bool.or_eq_false_iff, Bool.and_eq_false_iff, decide_eq_false_iff_not, Bool.not_eq_false'] at hn
    have ho4 : 0 < M 36 5 → M 36 4 = o := fun z => by rcases hn.1 with w | w; omega; simpa using w
    have hnin := allB_iff.mp hn.2
    unfold LH HV
    rw [k5, k4, k36 0 (by decide) (by decide) (by decide), hx 38 (by decide) (by decide) (by decide) (by decide) (by decide), y 4 (by decide) (by decide), y 5 (by decide) (by decide), y 0 (by decide) (by decide), d41, d04, if_neg (show ¬ M 36 5 + 1 = 0 by omega)]
    refine ⟨⟨by omega, fun _ => ho, fun k q0 q1 => ?_, fun j k j0 jk q1 => ?_⟩, rfl, fun i i0 i1 => ?_, rfl⟩
    · rw [k40]
      by_cases hk : k = M 36 5
      · rw [if_pos hk]; exact ⟨hq.2.1.1, hq.2.2.1⟩
      · rw [if_neg hk]
        have := a3 k q0 (by omega)
        rw [ho4 (by omega)] at this
        exact this
    · rw [k40, k40, if_neg (show ¬ j = M 36 5 by omega)]
      by_cases hk : k = M 36 5
      · rw [if_pos hk]
        have := hnin j j0 (by omega)
        simpa using this
      · rw [if_neg hk]; exact a4 j k j0 jk (by omega)
    · rw [d5, k40]
      by_cases hk : i = M 36 5
      · rw [if_pos hk, if_pos hk]
      · rw [if_neg hk, if_neg hk]; exact a6 i i0 (by omega)
  · unfold LT; rw [k36 14 (by decide) (by decide) (by decide), hx 6 (by decide) (by decide) (by decide) (by decide) (by decide), hx 7 (by decide) (by decide) (by decide) (by decide) (by decide), hx 45 (by decide) (by decide) (by decide) (by decide) (by decide)]; exact h.lt
  · rw [hx (28 + 2 * s) (by omega) (by omega) (by omega) (by omega) (by omega), hx (29 + 2 * s) (by omega) (by omega) (by omega) (by omega) (by omega), hx 42 (by decide) (by decide) (by decide) (by decide) (by decide), hx 43 (by decide) (by decide) (by decide) (by decide) (by decide), hx 44 (by decide) (by decide) (by decide) (by decide) (by decide)]; exact h.ls s s0 s1
/-- what ran, in both -/
theorem ad_rn : ∀ (T : List Int) (A C : MM), A 6 1 = C 36 14 → 0 ≤ C 36 14 → C 36 14 + T.length ≤ 60 → (∀ i, 0 ≤ i → i < C 36 14 → A 7 i = C 45 i) → adL A T 6 1 = rnL C T 36 14 ∧ (∀ i, 0 ≤ i → i < rnL C T 36 14 → adL A T 7 i = rnL C T 45 i) := by
  intro T
  induction T with
  | nil => intro A C h1 h2 _ h4; exact ⟨h1, h4⟩
  | cons v T ih =>
    intro A C h1 h2 h3 h4
    have hlen : ((v :: T).length : Int) = T.length + 1 := by simp
    have hA : addM A 6 v 60 = st2 (st2 A 7 (A 6 1) v) 6 1 (A 6 1 + 1) := add_6 (by omega)
    show adL (addM A 6 v 60) T 6 1 = rnL (ranM C v) T 36 14 ∧ ∀ i, 0 ≤ i → i < rnL (ranM C v) T 36 14 → adL (addM A 6 v 60) T 7 i = rnL (ranM C v) T 45 i
    refine ih _ _ ?_ ?_ ?_ (fun i i0 i1 => ?_)
    · rw [ranM_14, hA, st2_self, h1]
    · rw [ranM_14]; omega
    · rw [ranM_14]; omega
    · rw [ranM_14] at i1
      rw [hA, st2_ne _ (show (7 : Int) ≠ 6 by decide)]
      unfold ranM
      rw [st2_ne _ (show (45 : Int) ≠ 36 by decide)]
      show (if (7 : Int) = 7 then (if i = A 6 1 then v else A 7 i) else _) = (if (45 : Int) = 45 then (if i = C 36 14 then v else C 45 i) else _)
      rw [if_pos rfl, if_pos rfl, h1]
      by_cases hi : i = C 36 14
      · rw [if_pos hi, if_pos hi]
      · rw [if_neg hi, if_neg hi]; exact h4 i i0 (by omega)
theorem adL_6o {k : Int} (hk : k ≠ 1) : ∀ (T : List Int) (M : MM), adL M T 6 k = M 6 k := by
  intro T
  induction T with
  | nil => intro M; rfl
  | cons v T ih =>
    intro M
    show adL (addM M 6 v 60) T 6 k = M 6 k
    rw [ih]
    unfold addM
    split
    · rw [st2_o _ hk, st2_ne _ (by decide)]
    · rfl
theorem actT_len (a kd : Int) : (actT a kd).length ≤ 60 := by
  have h1 := lookT_len kd
  have h2 := partT_len kd
  have h3 := joinT_len kd
  have h4 := otT_len kd
  unfold actT
  split
  · omega
  · split
    · omega
    · split
      · omega
      · unfold tellT
        split
        · simp only [List.length_append, List.length_cons, List.length_nil]; omega
        · split
          · simp only [List.length_append, List.length_cons, List.length_nil]; omega
          · omega
def ac1 (M : MM) (T : List Int) : MM := st2 (adL (st2 M 6 1 0) T) 0 11 0
def ac2 (M : MM) (T : List Int) : MM := st2 (rnL (st2 M 36 14 0) T) 36 12 0
theorem LK.acd {K : KK} {M : MM} (h : LK K M) {T : List Int} (hT : T.length ≤ 60) : LK K (ac2 (ac1 M T) T) ∧ WF K (ac1 M T) ∧ ∀ x : Int, 36 ≤ x → x ≤ 54 → ac1 M T x = M x := by
  have w1 : WF K (ac1 M T) := WF.fld 0 11 rfl (WF.ad T (WF.fld 6 1 rfl h.wf))
  have w2 : WF K (ac2 (ac1 M T) T) := WF.fld 36 12 rfl ((WF.fld 36 14 rfl w1).rn T)
  have x1 : ∀ x : Int, x ≠ 0 → x ≠ 6 → x ≠ 7 → ac1 M T x = M x := fun x a b c => by
    unfold ac1; rw [st2_ne _ a, adL_x ⟨b, c⟩, st2_ne _ b]
  have y : ∀ x : Int, x ≠ 36 → x ≠ 45 → ac2 (ac1 M T) T x = ac1 M T x := fun x a b => by
    unfold ac2; rw [st2_ne _ a, rnL_x ⟨a, b⟩, st2_ne _ a]
  have hx : ∀ x : Int, x ≠ 0 → x ≠ 6 → x ≠ 7 → x ≠ 36 → x ≠ 45 → ac2 (ac1 M T) T x = M x := fun x a b c e f => by rw [y x e f, x1 x a b c]
  have e36 : ac1 M T 36 = M 36 := x1 36 (by decide) (by decide) (by decide)
  have k36 : ∀ k : Int, k ≠ 12 → k ≠ 14 → ac2 (ac1 M T) T 36 k = M 36 k := fun k a b => by
    unfold ac2; rw [st2_o _ a, rnL_36 b, st2_o _ b, e36]
  have k12 : ac2 (ac1 M T) T 36 12 = 0 := by unfold ac2; rw [st2_self]
  have d0 : ∀ k : Int, k ≠ 11 → ac1 M T 0 k = M 0 k := fun k a => by
    unfold ac1; rw [st2_o _ a, adL_x (by decide), st2_ne _ (by decide)]
  have d011 : ac1 M T 0 11 = 0 := by unfold ac1; rw [st2_self]
  have hlo := lo_same (M2 := ac2 (ac1 M T) T) h w2 (fun x hx55 => hx x (by omega) (by omega) (by omega) (by omega) (by omega)) (by rw [k36 0 (by decide) (by decide)]; exact Int.le_refl _) (fun o o0 o1 => by rw [hx 1 (by decide) (by decide) (by decide) (by decide) (by decide)]) (hx 37 (by decide) (by decide) (by decide) (by decide) (by decide)) (hx 38 (by decide) (by decide) (by decide) (by decide) (by decide)) (hx 39 (by decide) (by decide) (by decide) (by decide) (by decide))
  have hrn := ad_rn T (st2 M 6 1 0) (st2 (ac1 M T) 36 14 0) (by rw [st2_self, st2_self]) (by rw [st2_self]; omega) (by rw [st2_self]; omega) (fun i i0 i1 => by rw [st2_self] at i1; omega)
  have k14 : ac2 (ac1 M T) T 36 14 = rnL (st2 (ac1 M T) 36 14 0) T 36 14 := by unfold ac2; rw [st2_o _ (by decide)]
  have hl14 : rnL (st2 (ac1 M T) 36 14 0) T 36 14 = T.length := by rw [rnL_14, st2_self]; omega
  refine ⟨⟨mo_same h w2 (by rw [k36 0 (by decide) (by decide)]; exact h.c8) (hx 38 (by decide) (by decide) (by decide) (by decide) (by decide)) (hx 39 (by decide) (by decide) (by decide) (by decide) (by decide)), by rw [y 0 (by decide) (by decide), d0 1 (by decide), k36 0 (by decide) (by decide)]; exact h.cnt, hlo.1, hlo.2, ?_, ?_, ⟨⟨?_, ?_, ?_⟩, fun i i0 i1 => ?_⟩, fun s s0 s1 => ?_, by rw [y 0 (by decide) (by decide), d011, k12], h.rc.kp (fun x hx55 => hx x (by omega) (by omega) (by omega) (by omega) (by omega)) ⟨hx 9 (by decide) (by decide) (by decide) (by decide) (by decide), hx 10 (by decide) (by decide) (by decide) (by decide) (by decide), hx 11 (by decide) (by decide) (by decide) (by decide) (by decide)⟩, tw_st h.tw (fun k hk => k36 k (by omega) (by omega)) (hx 38 (by decide) (by decide) (by decide) (by decide) (by decide)) (hx 39 (by decide) (by decide) (by decide) (by decide) (by decide)) (hx 52 (by decide) (by decide) (by decide) (by decide) (by decide)) (hx 53 (by decide) (by decide) (by decide) (by decide) (by decide))⟩, w1, fun x x0 _ => x1 x (by omega) (by omega) (by omega)⟩
  · unfold LkP; rw [k36 7 (by decide) (by decide), hx 2 (by decide) (by decide) (by decide) (by decide) (by decide), hx 3 (by decide) (by decide) (by decide) (by decide) (by decide), hx 41 (by decide) (by decide) (by decide) (by decide) (by decide)]; exact h.lp
  · unfold LH HV; rw [k36 5 (by decide) (by decide), k36 4 (by decide) (by decide), k36 0 (by decide) (by decide), hx 38 (by decide) (by decide) (by decide) (by decide) (by decide), hx 40 (by decide) (by decide) (by decide) (by decide) (by decide), hx 4 (by decide) (by decide) (by decide) (by decide) (by decide), hx 5 (by decide) (by decide) (by decide) (by decide) (by decide), y 0 (by decide) (by decide), d0 4 (by decide)]; exact h.lh
  · rw [y 6 (by decide) (by decide), k14, ← hrn.1]; unfold ac1; rw [st2_ne _ (by decide)]
  · rw [k14, hl14]; omega
  · rw [k14, hl14]; omega
  · rw [k14] at i1
    rw [y 7 (by decide) (by decide)]
    have := hrn.2 i i0 i1
    unfold ac1 ac2
    rw [st2_ne _ (show (7 : Int) ≠ 0 by decide), st2_ne _ (show (45 : Int) ≠ 36 by decide), this]
    rfl
  · rw [hx (28 + 2 * s) (by omega) (by omega) (by omega) (by omega) (by omega), hx (29 + 2 * s) (by omega) (by omega) (by omega) (by omega) (by omega), hx 42 (by decide) (by decide) (by decide) (by decide) (by decide), hx 43 (by decide) (by decide) (by decide) (by decide) (by decide), hx 44 (by decide) (by decide) (by decide) (by decide) (by decide)]; exact h.ls s s0 s1
/-- sheets: what both keep of them changes alike -/
theorem lk_sheets {K : KK} {M M2 : MM} (h : LK K M) (hw : WF K M2) (hx : ∀ x : Int, x ≠ 0 → x ≠ 36 → ¬ (28 ≤ x ∧ x ≤ 35) → ¬ (42 ≤ x ∧ x ≤ 44) → M2 x = M x) (h0 : ∀ k : Int, k ≠ 11 → M2 0 k = M 0 k) (h36 : ∀ k : Int, k ≠ 12 → M2 36 k = M 36 k) (hst : M2 0 11 = M2 36 12) (hls : LkS M2) : LK K M2 := by
  have hlo := lo_same (M2 := M2) h hw (fun x hx55 => hx x (by omega) (by omega) (by omega) (by omega)) (by rw [h36 0 (by decide)]; exact Int.le_refl _) (fun o o0 o1 => by rw [hx 1 (by decide) (by decide) (by omega) (by omega)]) (hx 37 (by decide) (by decide) (by omega) (by omega)) (hx 38 (by decide) (by decide) (by omega) (by omega)) (hx 39 (by decide) (by decide) (by omega) (by omega))
  refine ⟨mo_same h hw (by rw [h36 0 (by decide)]; exact h.c8) (hx 38 (by decide) (by decide) (by omega) (by omega)) (hx 39 (by decide) (by decide) (by omega) (by omega)), by rw [h0 1 (by decide), h36 0 (by decide)]; exact h.cnt, hlo.1, hlo.2, ?_, ?_, ?_, hls, hst, h.rc.kp (fun x hx55 => hx x (by omega) (by omega) (by omega) (by omega)) ⟨hx 9 (by decide) (by decide) (by omega) (by omega), hx 10 (by decide) (by decide) (by omega) (by omega), hx 11 (by decide) (by decide) (by omega) (by omega)⟩, tw_st h.tw (fun k hk => h36 k (by omega)) (hx 38 (by decide) (by decide) (by omega) (by omega)) (hx 39 (by decide) (by decide) (by omega) (by omega)) (hx 52 (by decide) (by decide) (by omega) (by omega)) (hx 53 (by decide) (by decide) (by omega) (by omega))⟩
  · unfold LkP; rw [h36 7 (by decide), hx 2 (by decide) (by decide) (by omega) (by omega), hx 3 (by decide) (by decide) (by omega) (by omega), hx 41 (by decide) (by decide) (by omega) (by omega)]; exact h.lp
  · unfold LH HV; rw [h36 5 (by decide), h36 4 (by decide), h36 0 (by decide), hx 38 (by decide) (by decide) (by omega) (by omega), hx 40 (by decide) (by decide) (by omega) (by omega), hx 4 (by decide) (by decide) (by omega) (by omega), hx 5 (by decide) (by decide) (by omega) (by omega), h0 4 (by decide)]; exact h.lh
  · unfold LT; rw [h36 14 (by decide), hx 6 (by decide) (by decide) (by omega) (by omega), hx 7 (by decide) (by decide) (by omega) (by omega), hx 45 (by decide) (by decide) (by omega) (by omega)]; exact h.lt
def ce1 (M : MM) (s i v : Int) : MM := st2 (st2 M (28 + 2 * s + 1) i v) 0 11 0
def ce2 (M : MM) (s i v : Int) : MM := st2 (st2 M 44 (20 * s + i) v) 36 12 0
theorem LK.cel {K : KK} {M : MM} (h : LK K M) {s i v : Int} (hs : 0 ≤ s ∧ s ≤ 3) (hv : 0 ≤ v ∧ v ≤ 100) (hi : 0 ≤ i ∧ i < M 43 s) : LK K (ce2 (ce1 M s i v) s i v) ∧ WF K (ce1 M s i v) ∧ ∀ x : Int, 36 ≤ x → x ≤ 54 → ce1 M s i v x = M x := by
  have h43 := (h.ls s hs.1 (by omega)).2.2.1
  have w1 : WF K (ce1 M s i v) := WF.fld 0 11 rfl (h.wf.sha ⟨hs.1, by omega⟩)
  have w2 : WF K (ce2 (ce1 M s i v) s i v) := WF.fld 36 12 rfl (WF.arr 44 rfl w1)
  have x1 : ∀ x : Int, x ≠ 0 → x ≠ 28 + 2 * s + 1 → ce1 M s i v x = M x := fun x a b => by unfold ce1; rw [st2_ne _ a, st2_ne _ b]
  have y : ∀ x : Int, x ≠ 36 → x ≠ 44 → ce2 (ce1 M s i v) s i v x = ce1 M s i v x := fun x a b => by unfold ce2; rw [st2_ne _ a, st2_ne _ b]
  refine ⟨lk_sheets h w2 (fun x a b c e => by rw [y x b (by omega), x1 x a (by omega)]) (fun k hk => ?_) (fun k hk => ?_) ?_ (fun s' s0 s1 => ?_), w1, fun x x0 _ => x1 x (by omega) (by omega)⟩
  · rw [y 0 (by decide) (by decide)]; unfold ce1; rw [st2_o _ hk, st2_ne _ (by omega)]
  · unfold ce2; rw [st2_o _ hk, st2_ne _ (by decide), x1 36 (by decide) (by omega)]
  · unfold ce2; rw [st2_self, st2_ne _ (by decide), st2_ne _ (by decide)]; unfold ce1; rw [st2_self]
  · have hl := h.ls s' s0 s1
    rw [y (28 + 2 * s') (by omega) (by omega), x1 (28 + 2 * s') (by omega) (by omega), y 42 (by decide) (by decide), x1 42 (by decide) (by omega), y 43 (by decide) (by decide), x1 43 (by decide) (by omega), y (29 + 2 * s') (by omega) (by omega)]
    refine ⟨hl.1, hl.2.1, hl.2.2.1, fun j j0 j1 => ?_⟩
    have hj := hl.2.2.2 j j0 j1
    have e1 : ce2 (ce1 M s i v) s i v 44 (20 * s' + j) = if s' = s ∧ j = i then v else M 44 (20 * s' + j) := by
      unfold ce2
      rw [st2_ne _ (by decide)]
      show (if (44 : Int) = 44 then (if 20 * s' + j = 20 * s + i then v else ce1 M s i v 44 (20 * s' + j)) else _) = _
      rw [if_pos rfl, x1 44 (by decide) (by omega)]
      by_cases q : s' = s ∧ j = i
      · rw [if_pos (by omega), if_pos q]
      · rw [if_neg (by omega), if_neg q]
    have e2 : ce1 M s i v (29 + 2 * s') j = if s' = s ∧ j = i then v else M (29 + 2 * s') j := by
      unfold ce1
      rw [st2_ne _ (by omega)]
      show (if 29 + 2 * s' = 28 + 2 * s + 1 then (if j = i then v else M (29 + 2 * s') j) else M (29 + 2 * s') j) = _
      by_cases q : s' = s
      · rw [if_pos (by omega)]
        by_cases q2 : j = i
        · rw [if_pos q2, if_pos ⟨q, q2⟩]
        · rw [if_neg q2, if_neg (fun z => q2 z.2)]
      · rw [if_neg (by omega), if_neg (fun z => q z.1)]
    rw [e1, e2]
    by_cases q : s' = s ∧ j = i
    · rw [if_pos q, if_pos q]; exact ⟨rfl, hv⟩
    · rw [if_neg q, if_neg q]; exact hj
def sh1 (M : MM) (s so q : Int) : MM := st2 (reM M (28 + 2 * s) so q) 0 11 0
def sh2 (M : MM) (s so q : Int) : MM := st2 (shM M s so q 20) 36 12 0
theorem LK.sht {K : KK} {M : MM} (h : LK K M) {s so q : Int} (hs : 0 ≤ s ∧ s ≤ 3) (hso : -1 ≤ so ∧ so ≤ 2) (hq : 0 ≤ q ∧ q ≤ 20) : LK K (sh2 (sh1 M s so q) s so q) ∧ WF K (sh1 M s so q) ∧ ∀ x : Int, 36 ≤ x → x ≤ 54 → sh1 M s so q x = M x := by
  have w1 : WF K (sh1 M s so q) := WF.fld 0 11 rfl (WF.shf (WF.shf (wf_shs h.wf ⟨hs.1, by omega⟩) ⟨hs.1, by omega⟩ (by decide)) ⟨hs.1, by omega⟩ (by decide))
  have w2 : WF K (sh2 (sh1 M s so q) s so q) := WF.fld 36 12 rfl w1.sh
  have x1 : ∀ x : Int, x ≠ 0 → x ≠ 28 + 2 * s → x ≠ 28 + 2 * s + 1 → sh1 M s so q x = M x := fun x a b c => by unfold sh1 reM; rw [st2_ne _ a, st2_ne _ b, st2_ne _ b, setA_ne _ c]
  have y : ∀ x : Int, x ≠ 36 → x ≠ 42 → x ≠ 43 → x ≠ 44 → sh2 (sh1 M s so q) s so q x = sh1 M s so q x := fun x a b c e => by unfold sh2 shM; rw [st2_ne _ a, setA_ne _ e, st2_ne _ c, st2_ne _ b]
  refine ⟨lk_sheets h w2 (fun x a b c e => by rw [y x b (by omega) (by omega) (by omega), x1 x a (by omega) (by omega)]) (fun k hk => ?_) (fun k hk => ?_) ?_ (fun s' s0 s1 => ?_), w1, fun x x0 _ => x1 x (by omega) (by omega) (by omega)⟩
  · rw [y 0 (by decide) (by decide) (by decide) (by decide)]; unfold sh1 reM; rw [st2_o _ hk, st2_ne _ (by omega), st2_ne _ (by omega), setA_ne _ (by omega)]
  · unfold sh2 shM; rw [st2_o _ hk, setA_ne _ (by decide), st2_ne _ (by decide), st2_ne _ (by decide), x1 36 (by decide) (by omega) (by omega)]
  · unfold sh2 shM; rw [st2_self, st2_ne _ (by decide), setA_ne _ (by decide), st2_ne _ (by decide), st2_ne _ (by decide)]; unfold sh1; rw [st2_self]
  · have hl := h.ls s' s0 s1
    have e42 : sh2 (sh1 M s so q) s so q 42 s' = if s' = s then so else M 42 s' := by
      unfold sh2 shM
      rw [st2_ne _ (by decide), setA_ne _ (by decide), st2_ne _ (by decide)]
      show (if (42 : Int) = 42 then (if s' = s then so else sh1 M s so q 42 s') else _) = _
      rw [if_pos rfl, x1 42 (by decide) (by omega) (by omega)]
    have e43 : sh2 (sh1 M s so q) s so q 43 s' = if s' = s then q else M 43 s' := by
      unfold sh2 shM
      rw [st2_ne _ (by decide), setA_ne _ (by decide)]
      show (if (43 : Int) = 43 then (if s' = s then q else st2 (sh1 M s so q) 42 s so 43 s') else _) = _
      rw [if_pos rfl, st2_ne _ (by decide), x1 43 (by decide) (by omega) (by omega)]
    have e44 : ∀ j, 0 ≤ j → j < 20 → sh2 (sh1 M s so q) s so q 44 (20 * s' + j) = if s' = s then 0 else M 44 (20 * s' + j) := fun j j0 j1 => by
      unfold sh2 shM
      rw [st2_ne _ (by decide), setA_at]
      by_cases q1 : s' = s
      · rw [if_pos (by omega), if_pos q1]
      · rw [if_neg (by omega), if_neg q1, x1 44 (by decide) (by omega) (by omega)]
    have y1 := y (28 + 2 * s') (by omega) (by omega) (by omega) (by omega)
    have y2 := y (29 + 2 * s') (by omega) (by omega) (by omega) (by omega)
    rw [e42, e43, y1, y2]
    by_cases q1 : s' = s
    · subst q1
      rw [if_pos rfl, if_pos rfl]
      refine ⟨⟨by unfold sh1 reM; rw [st2_ne _ (by omega), st2_o _ (by decide), st2_self], by unfold sh1 reM; rw [st2_ne _ (by omega), st2_self]⟩, hso, hq, fun j j0 j1 => ?_⟩
      rw [e44 j j0 j1, if_pos rfl]
      refine ⟨?_, by omega, by omega⟩
      unfold sh1 reM
      rw [st2_ne _ (by omega), st2_ne _ (by omega), st2_ne _ (by omega), show 29 + 2 * s' = 28 + 2 * s' + 1 by omega, setA_at, if_pos ⟨j0, j1⟩]
    · rw [if_neg q1, if_neg q1, x1 (28 + 2 * s') (by omega) (by omega) (by omega), x1 (29 + 2 * s') (by omega) (by omega) (by omega)]
      refine ⟨hl.1, hl.2.1, hl.2.2.1, fun j j0 j1 => ?_⟩
      rw [e44 j j0 j1, if_neg q1]
      exact hl.2.2.2 j j0 j1
