/-! ===== the link is kept: answers, makings, refusals ===== -/
theorem LK.upd {K : KK} {M M2 : MM} (h : LK K M) (hw : WF K M2) (he : ∀ x : Int, x ≠ 0 → x ≠ 36 → ¬ (9 ≤ x ∧ x ≤ 27) → ¬ (46 ≤ x ∧ x ≤ 54) → M2 x = M x) (h01 : M2 0 1 = M 0 1) (h04 : M2 0 4 = M 0 4) (h36 : ∀ k, k = 0 ∨ k = 4 ∨ k = 5 ∨ k = 7 ∨ k = 14 → M2 36 k = M 36 k) (hst : M2 0 11 = M2 36 12) (hr : RC K M2) (ht : TW M2) : LK K M2 := by
  have f0 := h36 0 (by omega)
  have f4 := h36 4 (by omega)
  have f5 := h36 5 (by omega)
  have f7 := h36 7 (by omega)
  have f14 := h36 14 (by omega)
  have e1 := he 1 (by omega) (by omega) (by omega) (by omega)
  have e37 := he 37 (by omega) (by omega) (by omega) (by omega)
  have e38 := he 38 (by omega) (by omega) (by omega) (by omega)
  have e39 := he 39 (by omega) (by omega) (by omega) (by omega)
  have ed : ∀ o, dM M2 o = dM M o := fun o => by unfold dM; rw [e39]
  refine ⟨⟨hw, by rw [f0]; exact h.1.2.1, by rw [e38]; exact h.1.2.2.1, by rw [e39]; exact h.1.2.2.2.1, by rw [e38, e39]; exact h.1.2.2.2.2⟩, by rw [h01, f0]; exact h.cnt, fun o o0 o1 => ?_, ?_, ?_, ?_, ?_, ?_, hst, hr, ht⟩
  · rw [f0] at o1
    rw [e1, e37, e38, ed]
    have hb := h.ob ⟨o0, o1⟩
    have hg := hb.ge
    exact ⟨hb.of hw (he _ (by omega) (by omega) (by omega) (by omega)) (he _ (by omega) (by omega) (by omega) (by omega)) (he _ (by omega) (by omega) (by omega) (by omega)), h.po ⟨o0, o1⟩, h.kd ⟨o0, o1⟩⟩
  · unfold LD; rw [f0, e1]; exact h.ld
  · unfold LkP; rw [f7, he 2 (by omega) (by omega) (by omega) (by omega), he 3 (by omega) (by omega) (by omega) (by omega), he 41 (by omega) (by omega) (by omega) (by omega)]; exact h.lp
  · unfold LH HV; rw [f5, f4, f0, he 4 (by omega) (by omega) (by omega) (by omega), he 5 (by omega) (by omega) (by omega) (by omega), he 40 (by omega) (by omega) (by omega) (by omega), h04, e38]; exact h.lh
  · unfold LT; rw [f14, he 6 (by omega) (by omega) (by omega) (by omega), he 7 (by omega) (by omega) (by omega) (by omega), he 45 (by omega) (by omega) (by omega) (by omega)]; exact h.lt
  · intro s s0 s1
    rw [he (28 + 2 * s) (by omega) (by omega) (by omega) (by omega), he (29 + 2 * s) (by omega) (by omega) (by omega) (by omega), he 42 (by omega) (by omega) (by omega) (by omega), he 43 (by omega) (by omega) (by omega) (by omega), he 44 (by omega) (by omega) (by omega) (by omega)]
    exact h.ls s s0 s1
/-- what the model's calls need -/
def ML (K : KK) (M : MM) : Prop := MO K M ∧ (∀ o, isOr M o = true → PO (M 38 o) (dM M o)) ∧ HV M ∧ SV M ∧ (∀ i, 0 ≤ i → i < 80 → 0 ≤ M 44 i ∧ M 44 i ≤ 100) ∧ TW M ∧ (0 ≤ M 36 7 ∧ M 36 7 ≤ 10) ∧ (0 ≤ M 36 14 ∧ M 36 14 ≤ 60)
theorem ML.of {K K1 : KK} {M M1 : MM} (h : LK K M) (hw : WF K1 M1) (he : ∀ x : Int, 36 ≤ x → x ≤ 54 → M1 x = M x) : ML K1 M1 := by
  have e36 := he 36 (by omega) (by omega)
  have e38 := he 38 (by omega) (by omega)
  have e39 := he 39 (by omega) (by omega)
  have e40 := he 40 (by omega) (by omega)
  have e43 := he 43 (by omega) (by omega)
  have e44 := he 44 (by omega) (by omega)
  have e52 := he 52 (by omega) (by omega)
  have e53 := he 53 (by omega) (by omega)
  have ed : ∀ o, dM M1 o = dM M o := fun o => by unfold dM; rw [e39]
  refine ⟨⟨hw, by rw [e36]; exact h.1.2.1, by rw [e38]; exact h.1.2.2.1, by rw [e39]; exact h.1.2.2.2.1, by rw [e38, e39]; exact h.1.2.2.2.2⟩, fun o ho => ?_, ?_, ?_, ?_, ?_, ?_, ?_⟩
  · rw [e38, ed]
    unfold isOr at ho
    rw [e36, Bool.and_eq_true, decide_eq_true_eq, decide_eq_true_eq] at ho
    exact h.po ho
  · unfold HV; rw [e36, e40, e38]; exact h.lh.1
  · intro s s0 s1; rw [e43]; exact (h.ls s s0 s1).2.2.1
  · intro i i0 i1
    rw [e44]
    have h1 := (h.ls (i / 20) (by omega) (by omega)).2.2.2 (i % 20) (by omega) (by omega)
    rw [show 20 * (i / 20) + i % 20 = i by omega] at h1
    exact h1.2
  · unfold TW TWk; rw [e36, e38, e52, e53, ed]; exact h.tw
  · rw [e36]; exact h.lp.1.2
  · rw [e36]; exact h.lt.1.2
theorem LK.ml {K : KK} {M : MM} (h : LK K M) : ML K M := ML.of h h.wf (fun _ _ _ => rfl)
theorem ML.ch {K : KK} {M : MM} (h : ML K M) {o t : Int} (ht : isTh M o t = true) : chR (M 38 o) (dM M o) ≠ none := ch_some (h.2.1 o (isTh_of h.1 ht).2.2.2)
theorem sc.lk {K : KK} {M M1 : MM} (h : LK K M) (hs : sc M M1) : LK K M1 := by
  refine h.upd (h.1.off hs).1 (fun x _ _ _ h4 => hs x (by omega)) (by rw [hs 0 (by omega)]) (by rw [hs 0 (by omega)]) (fun k _ => by rw [hs 36 (by omega)]) (by rw [hs 0 (by omega), hs 36 (by omega)]; exact h.st) (h.rc.kp (fun x hx => hs x (by omega)) ⟨hs 9 (by omega), hs 10 (by omega), hs 11 (by omega)⟩) (h.tw.off_sc hs)
theorem sd.lk {K : KK} {M M1 : MM} (h : LK K M) (hs : sd M M1) (ht : TW M1) : LK K M1 := by
  refine h.upd (h.1.off_sd hs).1 (fun x _ h2 _ h4 => hs.1 x (by omega) h2) (by rw [hs.1 0 (by omega) (by omega)]) (by rw [hs.1 0 (by omega) (by omega)]) (fun k hk => hs.2 k (by omega)) (by rw [hs.1 0 (by omega) (by omega), hs.2 12 (by omega)]; exact h.st) (h.rc.kp (fun x hx => hs.1 x (by omega) (by omega)) ⟨hs.1 9 (by omega) (by omega), hs.1 10 (by omega) (by omega), hs.1 11 (by omega) (by omega)⟩) ht
theorem tw_st {M M1 : MM} (h : TW M) (h36 : ∀ k, k = 0 ∨ k = 21 ∨ k = 22 ∨ k = 23 → M1 36 k = M 36 k) (h38 : M1 38 = M 38) (h39 : M1 39 = M 39) (h52 : M1 52 = M 52) (h53 : M1 53 = M 53) : TW M1 := by
  have ed : ∀ o, dM M1 o = dM M o := fun o => by unfold dM; rw [h39]
  unfold TW TWk at h ⊢
  rw [h36 0 (by omega), h36 21 (by omega), h36 22 (by omega), h36 23 (by omega), h38, h52, h53, ed]
  exact h
/-- a status in both -/
theorem LK.stat {K : KK} {M : MM} (h : LK K M) (w : Int) : LK K (st2 (st2 M 0 11 w) 36 12 w) := by
  have e : ∀ x : Int, x ≠ 0 → x ≠ 36 → st2 (st2 M 0 11 w) 36 12 w x = M x := fun x h1 h2 => by rw [st2_ne _ h2, st2_ne _ h1]
  have e36 : ∀ k : Int, k ≠ 12 → st2 (st2 M 0 11 w) 36 12 w 36 k = M 36 k := fun k hk => by rw [st2_o _ hk, st2_ne _ (show (36 : Int) ≠ 0 by decide)]
  have e0 : ∀ k : Int, k ≠ 11 → st2 (st2 M 0 11 w) 36 12 w 0 k = M 0 k := fun k hk => by rw [st2_ne _ (show (0 : Int) ≠ 36 by decide), st2_o _ hk]
  refine h.upd (WF.fld 36 12 rfl (WF.fld 0 11 rfl h.wf)) (fun x h1 h2 _ _ => e x h1 h2) (e0 1 (by decide)) (e0 4 (by decide)) (fun k hk => e36 k (by omega)) ?_ (h.rc.kp (fun x hx => e x (by omega) (by omega)) ⟨e 9 (by decide) (by decide), e 10 (by decide) (by decide), e 11 (by decide) (by decide)⟩) (tw_st h.tw (fun k hk => e36 k (by omega)) (e 38 (by decide) (by decide)) (e 39 (by decide) (by decide)) (e 52 (by decide) (by decide)) (e 53 (by decide) (by decide)))
  rw [st2_self, st2_ne _ (show (0 : Int) ≠ 36 by decide), st2_self]
/-- refused in both -/
theorem LK.ref {n n' : Nat} {K K' : KK} {M M' : MM} {w : Int} (h : LK K M) (hr : REF n K M w n' K' M') : n' = n ∧ K' = K ∧ LK K (st2 M' 36 12 w) ∧ WF K M' ∧ ∀ x : Int, 36 ≤ x → x ≤ 54 → M' x = M x := by
  obtain ⟨rfl, rfl, h1, h2, h3, h4⟩ := hr
  refine ⟨rfl, rfl, ?_, h4, fun x _ _ => h1 x (by omega) (by omega)⟩
  have e0 : ∀ k : Int, k ≠ 11 → M' 0 k = M 0 k := fun k hk => by rw [h2]; exact if_neg hk
  refine h.upd (WF.fld 36 12 rfl h4) (fun x g1 g2 g3 _ => by rw [st2_ne _ g2]; exact h1 x g3 g1) (by rw [st2_ne _ (by decide)]; exact e0 1 (by decide)) (by rw [st2_ne _ (by decide)]; exact e0 4 (by decide)) (fun k hk => by rw [st2_o _ (by omega), h1 36 (by omega) (by omega)]) ?_ (h3.kp (fun x hx => st2_ne _ (by omega)) ⟨st2_ne _ (by decide), st2_ne _ (by decide), st2_ne _ (by decide)⟩) (tw_st h.tw (fun k hk => by rw [st2_o _ (by omega), h1 36 (by omega) (by omega)]) (by rw [st2_ne _ (by decide)]; exact h1 38 (by omega) (by omega)) (by rw [st2_ne _ (by decide)]; exact h1 39 (by omega) (by omega)) (by rw [st2_ne _ (by decide)]; exact h1 52 (by omega) (by omega)) (by rw [st2_ne _ (by decide)]; exact h1 53 (by omega) (by omega)))
  rw [st2_self, st2_ne _ (show (0 : Int) ≠ 36 by decide), h2]
  exact if_pos rfl
/-- made in both -/
theorem LK.made {n n' : Nat} {K K' : KK} {M M' : MM} {ci : Nat} {q k : Int} {R : Int → Int → Bool} {f : Int → Int} (h : LK K M) (hf : ∀ a : Int, (K a).1 ≠ 9 → 0 ≤ a ∧ a < n) (hn : 55 ≤ n) (hm : MADR n K M ci q R n' K' M') (hk : kci k = ci ∧ 0 ≤ k ∧ k ≤ 5) (hlt : M 36 0 < 8) (hs : MKS q f R) : n' = n + 3 ∧ LK K' (crM M' k q f) ∧ WF K' M' ∧ ∀ x : Int, 36 ≤ x → x ≤ 54 → M' x = M x := by
  obtain ⟨D, ⟨hn', hK, hO, hM, h0, h1, hr⟩, hD, hz⟩ := hm
  have hw := hO.wf
  have hq := hO.sz
  have hc8 := h.c8
  have e36 : M' 36 = M 36 := hM 36 (by omega) (by omega) (by omega) (by omega)
  have ex : ∀ x : Int, ¬ (9 ≤ x ∧ x ≤ 27) → x ≠ 0 → x ≠ 1 → x < n → M' x = M x := hM
  have e38 : M' 38 = M 38 := hM 38 (by omega) (by omega) (by omega) (by omega)
  have e39 : M' 39 = M 39 := hM 39 (by omega) (by omega) (by omega) (by omega)
  have e37 : M' 37 = M 37 := hM 37 (by omega) (by omega) (by omega) (by omega)
  have hMO' : MO K' M' := ⟨hw, by rw [e36]; exact h.1.2.1, by rw [e38]; exact h.1.2.2.1, by rw [e39]; exact h.1.2.2.2.1, by rw [e38, e39]; exact h.1.2.2.2.2⟩
  have hfb : ∀ e, 0 ≤ e → e < 10 → 0 ≤ f e ∧ f e < p2 q := fun e e0 e1 => ⟨(hs.1.1.2.1 e e0 e1).1, hs.1.1.2.2 e e0 e1⟩
  have hc : M' 36 0 = M 36 0 := by rw [e36]
  have hMO := hMO'.cr (k := k) (by rw [hc]; exact hlt) hq hfb
  have hDf := set_eq hO.ok hs.1.1 hD hs.2.1 hz hs.2.2
  have hoff : ∀ x : Int, ¬ (36 ≤ x ∧ x ≤ 39) → crM M' k q f x = M' x := fun x hx => crM_off M' k q f hx
  have c36 : ∀ j : Int, j ≠ 12 → j ≠ 21 → j ≠ 0 → crM M' k q f 36 j = M 36 j := fun j a b c => by rw [crM_36, if_neg a, if_neg b, if_neg c, e36]
  have cn : crM M' k q f 36 0 = M 36 0 + 1 := by rw [crM_36]; simp; rw [hc]
  refine ⟨hn', ⟨hMO, ?_, fun o o0 o1 => ?_, fun o o' o0 oo o1 => ?_, ?_, ?_, ?_, fun s s0 s1 => ?_, ?_, ?_, ?_⟩, hw, fun x x0 x1 => hM x (by omega) (by omega) (by omega) (by omega)⟩
  · rw [hoff 0 (by omega), cn, h0]; rfl
  · rw [cn] at o1
    by_cases ho : o = M 36 0
    · rw [crM_37, crM_38, if_pos (by rw [hc]; exact ho), if_pos (by rw [hc]; exact ho), hoff 1 (by omega), h1, show up (M 1) (M 36 0) n o = n from if_pos ho]
      have hde : ∀ y, 0 ≤ y → y < 10 → D y = dM (crM M' k q f) o y := fun y y0 y1 => by
        rw [hDf y y0 y1]
        show _ = crM M' k q f 39 (10 * o + y)
        rw [ho, ← hc, crM_39o M' k q f ⟨y0, y1⟩]
      have hb : OB K' (crM M' k q f) n ci (M 36 0) q D := hO.of hMO.1 (hoff _ (by omega)) (hoff _ (by omega)) (hoff _ (by omega))
      rw [hk.1, ho] at *
      exact ⟨hb.ext (by rw [← ho]; exact hde), hs.1.ext (fun y y0 y1 => by rw [← ho, ← hde y y0 y1, hDf y y0 y1]), hk.2⟩
    · have ho1 : o < M 36 0 := by omega
      have hb := h.ob ⟨o0, ho1⟩
      have hlt' := hb.lt hf
      rw [crM_37, crM_38, if_neg (by rw [hc]; exact ho), if_neg (by rw [hc]; exact ho), hoff 1 (by omega), h1, show up (M 1) (M 36 0) n o = M 1 o from if_neg ho, e37, e38]
      have hde : ∀ y, 0 ≤ y → y < 10 → dM M o y = dM (crM M' k q f) o y := fun y y0 y1 => by
        show M 39 (10 * o + y) = crM M' k q f 39 (10 * o + y)
        rw [crM_39, if_neg (by rw [hc]; omega), e39]
      have hg := hb.ge
      have hb1 : OB K' M' (M 1 o) (kci (M 37 o)) o (M 38 o) (dM M o) := hb.old hlt' hw hK (fun x x0 x1 => hM x (by omega) (by omega) (by omega) x1)
      have hb2 : OB K' (crM M' k q f) (M 1 o) (kci (M 37 o)) o (M 38 o) (dM M o) := hb1.of hMO.1 (hoff _ (by omega)) (hoff _ (by omega)) (hoff _ (by omega))
      exact ⟨hb2.ext hde, (h.po ⟨o0, ho1⟩).ext hde, h.kd ⟨o0, ho1⟩⟩
  · rw [cn] at o1
    rw [hoff 1 (by omega), h1]
    rw [show up (M 1) (M 36 0) n o = M 1 o from if_neg (by omega)]
    by_cases ho : o' = M 36 0
    · rw [show up (M 1) (M 36 0) n o' = n from if_pos ho]
      have := (h.ob (o := o) ⟨o0, by omega⟩).lt hf
      omega
    · rw [show up (M 1) (M 36 0) n o' = M 1 o' from if_neg ho]
      exact h.ld o o' o0 oo (by omega)
  · unfold LkP
    rw [c36 7 (by decide) (by decide) (by decide), hoff 2 (by omega), hoff 3 (by omega), hoff 41 (by omega), hM 2 (by omega) (by omega) (by omega) (by omega), hM 3 (by omega) (by omega) (by omega) (by omega), hM 41 (by omega) (by omega) (by omega) (by omega)]
    exact h.lp
  · have hh := h.lh
    unfold LH HV at hh ⊢
    rw [c36 5 (by decide) (by decide) (by decide), c36 4 (by decide) (by decide) (by decide), cn, hoff 4 (by omega), hoff 5 (by omega), hoff 40 (by omega), hoff 0 (by omega), hM 4 (by omega) (by omega) (by omega) (by omega), hM 5 (by omega) (by omega) (by omega) (by omega), hM 40 (by omega) (by omega) (by omega) (by omega), h0, show up (up (M 0) 1 (M 36 0 + 1)) 11 0 4 = M 0 4 from rfl]
    obtain ⟨⟨a1, a2, a3, a4⟩, a5⟩ := hh
    refine ⟨⟨a1, fun z => ⟨(a2 z).1, by have := (a2 z).2; omega⟩, fun j j0 j1 => ?_, a4⟩, a5⟩
    rw [crM_38, if_neg (by rw [hc]; have := (a2 (by omega)).2; omega), e38]
    exact a3 j j0 j1
  · unfold LT
    rw [c36 14 (by decide) (by decide) (by decide), hoff 6 (by omega), hoff 7 (by omega), hoff 45 (by omega), hM 6 (by omega) (by omega) (by omega) (by omega), hM 7 (by omega) (by omega) (by omega) (by omega), hM 45 (by omega) (by omega) (by omega) (by omega)]
    exact h.lt
  · rw [hoff (28 + 2 * s) (by omega), hoff (29 + 2 * s) (by omega), hoff 42 (by omega), hoff 43 (by omega), hoff 44 (by omega), hM (28 + 2 * s) (by omega) (by omega) (by omega) (by omega), hM (29 + 2 * s) (by omega) (by omega) (by omega) (by omega), hM 42 (by omega) (by omega) (by omega) (by omega), hM 43 (by omega) (by omega) (by omega) (by omega), hM 44 (by omega) (by omega) (by omega) (by omega)]
    exact h.ls s s0 s1
  · rw [hoff 0 (by omega), h0, crM_36]; simp; rfl
  · exact hr.kp (fun x hx => hoff x (by omega)) ⟨hoff 9 (by omega), hoff 10 (by omega), hoff 11 (by omega)⟩
  · left; rw [crM_36]; simp
