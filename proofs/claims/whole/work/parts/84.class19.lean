/-! ===== the class: sheets ===== -/
set_option maxRecDepth 100000 in
set_option maxHeartbeats 1000000 in
theorem c_X8_isMissing {G : GG} {n : Nat} {K : KK} {M : MM} {s : Int} (hs : SF K M s) : MC G mi_X8_isMissing 1 0 0 [(1, s)] n K M (PQ (some (0, B (decide (M s 1 = -1)))) n K (M)) := by
  refine MC.intro (lc := [(0, (1, s))]) (by decide) rfl (by simp [Nat.ble]) (Nat.le_of_ble_eq_true rfl) rfl (fun hMR => ?_)
  refine x_aload_n (dtk dt_X8_isMissing 0 (0, .aload_n 0, 1) rfl) rfl ?_
  refine fg_X8_15 rfl (dtk dt_X8_isMissing 1 (1, .getfield 15, 3) rfl) hs.1 rfl ?_
  refine x_iconst (v := -1) ⟨by decide, by decide⟩ (dtk dt_X8_isMissing 2 (4, .iconst (-1), 1) rfl) ?_
  refine x_icmp_ne (tgt := 12) (dtk dt_X8_isMissing 3 (5, .if_icmp .ne 7, 3) rfl) (by decide) (fun c5 => ?_) (fun c5 => ?_)
  · skip
    refine x_iconst (v := 0) ⟨by decide, by decide⟩ (dtk dt_X8_isMissing 6 (12, .iconst 0, 1) rfl) ?_
    exact r_b (b := false) (dtk dt_X8_isMissing 7 (13, .ireturn, 1) rfl) rfl (by simp_all) rfl
  · skip
    refine x_iconst (v := 1) ⟨by decide, by decide⟩ (dtk dt_X8_isMissing 4 (8, .iconst 1, 1) rfl) ?_
    refine x_goto (tgt := 13) (dtk dt_X8_isMissing 5 (9, .goto 4, 3) rfl) (by decide) ?_
    exact r_b (b := true) (dtk dt_X8_isMissing 7 (13, .ireturn, 1) rfl) rfl (by simp_all) rfl
set_option maxRecDepth 100000 in
set_option maxHeartbeats 1000000 in
theorem c_X8_hasPlace {G : GG} {n : Nat} {K : KK} {M : MM} {s i : Int} (hs : SF K M s) : MC G mi_X8_hasPlace 1 0 0 [(1, s), (0, i)] n K M (PQ (some (0, B (decide (0 ≤ i) && decide (i < M s 2)))) n K (M)) := by
  refine MC.intro (lc := [(0, (1, s)), (1, (0, i))]) (by decide) rfl (by simp [Nat.ble]) (Nat.le_of_ble_eq_true rfl) rfl (fun hMR => ?_)
  refine x_iload_n (dtk dt_X8_hasPlace 0 (0, .iload_n 1, 1) rfl) rfl ?_
  refine x_if_lt (tgt := 16) (dtk dt_X8_hasPlace 1 (1, .ifCond .lt 15, 3) rfl) (by decide) (fun c1 => ?_) (fun c1 => ?_)
  · skip
    refine x_iconst (v := 0) ⟨by decide, by decide⟩ (dtk dt_X8_hasPlace 8 (16, .iconst 0, 1) rfl) ?_
    exact r_b (b := false) (dtk dt_X8_hasPlace 9 (17, .ireturn, 1) rfl) rfl (by simp; omega) rfl
  · skip
    refine x_iload_n (dtk dt_X8_hasPlace 2 (4, .iload_n 1, 1) rfl) rfl ?_
    refine x_aload_n (dtk dt_X8_hasPlace 3 (5, .aload_n 0, 1) rfl) rfl ?_
    refine fg_X8_19 rfl (dtk dt_X8_hasPlace 4 (6, .getfield 19, 3) rfl) hs.1 rfl ?_
    refine x_icmp_ge (tgt := 16) (dtk dt_X8_hasPlace 5 (9, .if_icmp .ge 7, 3) rfl) (by decide) (fun c9 => ?_) (fun c9 => ?_)
    · skip
      refine x_iconst (v := 0) ⟨by decide, by decide⟩ (dtk dt_X8_hasPlace 8 (16, .iconst 0, 1) rfl) ?_
      exact r_b (b := false) (dtk dt_X8_hasPlace 9 (17, .ireturn, 1) rfl) rfl (by simp; omega) rfl
    · skip
      refine x_iconst (v := 1) ⟨by decide, by decide⟩ (dtk dt_X8_hasPlace 6 (12, .iconst 1, 1) rfl) ?_
      refine x_goto (tgt := 17) (dtk dt_X8_hasPlace 7 (13, .goto 4, 3) rfl) (by decide) ?_
      exact r_b (b := true) (dtk dt_X8_hasPlace 9 (17, .ireturn, 1) rfl) rfl (by simp; omega) rfl
set_option maxRecDepth 100000 in
set_option maxHeartbeats 1000000 in
theorem c_X8_numberAt {G : GG} {n : Nat} {K : KK} {M : MM} {s i : Int} (hs : SF K M s) (hz : 0 ≤ M s 2 ∧ M s 2 ≤ 20) : MC G mi_X8_numberAt 2 0 0 [(1, s), (0, i)] n K M (PQ (some (0, if 0 ≤ i ∧ i < M s 2 then M (s + 1) i else -1)) n K (M)) := by
  refine MC.intro (lc := [(0, (1, s)), (1, (0, i))]) (by decide) rfl (by simp [Nat.ble]) (Nat.le_of_ble_eq_true rfl) rfl (fun hMR => ?_)
  refine x_aload_n (dtk dt_X8_numberAt 0 (0, .aload_n 0, 1) rfl) rfl ?_
  refine x_iload_n (dtk dt_X8_numberAt 1 (1, .iload_n 1, 1) rfl) rfl ?_
  refine kc_X8_34 rfl (dtk dt_X8_numberAt 2 (2, .invokevirtual 34, 3) rfl) (c_X8_hasPlace (G := G)  hs) rfl rfl hs.1 (fitR (by decide) (by decide)) (Nat.le_of_ble_eq_true rfl) (pqK ?_)
  refine x_if_eqB (tgt := 17) (dtk dt_X8_numberAt 3 (5, .ifCond .eq 12, 3) rfl) (by decide) (fun c5 => ?_) (fun c5 => ?_)
  · skip
    have hi : ¬ (0 ≤ i ∧ i < M s 2) := by (simp at c5; omega)
    refine x_iconst (v := -1) ⟨by decide, by decide⟩ (dtk dt_X8_numberAt 9 (17, .iconst (-1), 1) rfl) ?_
    exact r_i (dtk dt_X8_numberAt 10 (18, .ireturn, 1) rfl) rfl (by first | (rw [if_pos hi]; done) | (rw [if_neg hi])) rfl
  · skip
    have hi : 0 ≤ i ∧ i < M s 2 := by (simp at c5; omega)
    refine x_aload_n (dtk dt_X8_numberAt 4 (8, .aload_n 0, 1) rfl) rfl ?_
    refine fg_X8_9 rfl (dtk dt_X8_numberAt 5 (9, .getfield 9, 3) rfl) hs.1 hs.2.2 ?_
    refine x_iload_n (dtk dt_X8_numberAt 6 (12, .iload_n 1, 1) rfl) rfl ?_
    refine x_iald (dtk dt_X8_numberAt 7 (13, .iaload, 1) rfl) hs.2.1 ⟨by omega, by omega⟩ ?_
    refine x_goto (tgt := 18) (dtk dt_X8_numberAt 8 (14, .goto 4, 3) rfl) (by decide) ?_
    exact r_i (dtk dt_X8_numberAt 10 (18, .ireturn, 1) rfl) rfl (by first | (rw [if_pos hi]; done) | (rw [if_neg hi])) rfl
set_option maxRecDepth 100000 in
set_option maxHeartbeats 1000000 in
theorem c_X8_sumOf {G : GG} {n : Nat} {K : KK} {M : MM} {s q : Int} (hs : SF K M s) (hz : 0 ≤ M s 2 ∧ M s 2 ≤ 20) (hq : 0 ≤ q ∧ 1 + q ≤ M s 2) (hb : ∀ k, inR (M (s + 1) k)) : MC G mi_X8_sumOf 3 0 0 [(1, s), (0, 1), (0, q)] n K M (PQ (some (0, foldZ q (fun v k => wr (v + M (s + 1) (k + 1))) 0)) n K (M)) := by
  refine MC.intro (lc := [(0, (1, s)), (1, (0, 1)), (2, (0, q))]) (by decide) rfl (by simp [Nat.ble]) (Nat.le_of_ble_eq_true rfl) rfl (fun hMR => ?_)
  refine x_iconst (v := 0) ⟨by decide, by decide⟩ (dtk dt_X8_sumOf 0 (0, .iconst 0, 1) rfl) ?_
  refine x_istore_n (dtk dt_X8_sumOf 1 (1, .istore_n 3, 1) rfl) (by decide) ?_
  refine x_iload_n (dtk dt_X8_sumOf 2 (2, .iload_n 1, 1) rfl) rfl ?_
  refine x_istore (dtk dt_X8_sumOf 3 (3, .istore 4, 2) rfl) (by decide) ?_
  have L5 : ∀ (fu : Nat) (v3 : Int) (v4 : Int), (1 ≤ v4 ∧ v4 ≤ 1 + q) → (v3 = foldZ (v4 - 1) (fun v k => wr (v + M (s + 1) (k + 1))) 0) → (1 + q - v4).toNat = fu → MW G mi_X8_sumOf (rmd 3 0 0) (MZ G (PQ (some (0, foldZ q (fun v k => wr (v + M (s + 1) (k + 1))) 0)) n K (M)) 0 0) (0, 0) 5 [(0, (1, s)), (1, (0, 1)), (2, (0, q)), (3, (0, v3)), (4, (0, v4))] [] n K (M) := by
    intro fu
    induction fu using Nat.strongRecOn with
    | ind fu ih5 =>
      intro v3 v4 h1 h2 hk5
      refine x_iload (dtk dt_X8_sumOf 4 (5, .iload 4, 2) rfl) rfl ?_
      refine x_iload_n (dtk dt_X8_sumOf 5 (7, .iload_n 1, 1) rfl) rfl ?_
      refine x_iload_n (dtk dt_X8_sumOf 6 (8, .iload_n 2, 1) rfl) rfl ?_
      refine y_iadd (dtk dt_X8_sumOf 7 (9, .iadd, 1) rfl) ⟨by omega, by omega⟩ ?_
      refine x_icmp_ge (tgt := 28) (dtk dt_X8_sumOf 8 (10, .if_icmp .ge 18, 3) rfl) (by decide) (fun c10 => ?_) (fun c10 => ?_)
      · skip
        refine x_iload_n (dtk dt_X8_sumOf 17 (28, .iload_n 3, 1) rfl) rfl ?_
        exact r_i (dtk dt_X8_sumOf 18 (29, .ireturn, 1) rfl) rfl (by rw [h2, show v4 - 1 = q by omega]) rfl
      · skip
        refine x_iload_n (dtk dt_X8_sumOf 9 (13, .iload_n 3, 1) rfl) rfl ?_
        refine x_aload_n (dtk dt_X8_sumOf 10 (14, .aload_n 0, 1) rfl) rfl ?_
        refine x_iload (dtk dt_X8_sumOf 11 (15, .iload 4, 2) rfl) rfl ?_
        refine kc_X8_38 rfl (dtk dt_X8_sumOf 12 (17, .invokevirtual 38, 3) rfl) (c_X8_numberAt (G := G)  hs (by omega)) rfl rfl hs.1 (fitR (by decide) (by decide)) (Nat.le_of_ble_eq_true rfl) (pqK ?_)
        rw [if_pos (show 0 ≤ v4 ∧ v4 < M s 2 by omega)]
        refine w_iadd (dtk dt_X8_sumOf 13 (20, .iadd, 1) rfl) ?_
        refine x_istore_n (dtk dt_X8_sumOf 14 (21, .istore_n 3, 1) rfl) (by decide) ?_
        refine y_iinc (dtk dt_X8_sumOf 15 (22, .iinc 4 1, 3) rfl) rfl (by decide) ⟨by omega, by omega⟩ ?_
        refine x_goto (tgt := 5) (dtk dt_X8_sumOf 16 (25, .goto (-20), 3) rfl) (by decide) ?_
        refine MW.sub [2, 3, 4, 1, 0] rfl ?_
        exact ih5 _ (by omega) _ _ (by omega) (by rw [show v4 + 1 - 1 = (v4 - 1) + 1 by omega, foldZ_s (by omega), ← h2, show v4 - 1 + 1 = v4 by omega]) rfl
  refine MW.sub [2, 3, 4, 1, 0] rfl ?_
  exact L5 _ _ _ (by omega) rfl rfl
set_option maxRecDepth 100000 in
set_option maxHeartbeats 1000000 in
theorem c_X8_whyNotOf {G : GG} {n : Nat} {K : KK} {M : MM} {s a : Int} (hs : SF K M s) : MC G mi_X8_whyNotOf 2 0 0 [(1, s), (0, a)] n K M (PQ (some (0, if M s 1 = -1 then 10 else if M s 1 = a then 0 else 11)) n K (M)) := by
  refine MC.intro (lc := [(0, (1, s)), (1, (0, a))]) (by decide) rfl (by simp [Nat.ble]) (Nat.le_of_ble_eq_true rfl) rfl (fun hMR => ?_)
  refine x_aload_n (dtk dt_X8_whyNotOf 0 (0, .aload_n 0, 1) rfl) rfl ?_
  refine kc_X8_42 rfl (dtk dt_X8_whyNotOf 1 (1, .invokevirtual 42, 3) rfl) (c_X8_isMissing (G := G)  hs) rfl rfl hs.1 (fitR (by decide) (by decide)) (Nat.le_of_ble_eq_true rfl) (pqK ?_)
  refine x_if_eqB (tgt := 10) (dtk dt_X8_whyNotOf 2 (4, .ifCond .eq 6, 3) rfl) (by decide) (fun c4 => ?_) (fun c4 => ?_)
  · skip
    refine x_aload_n (dtk dt_X8_whyNotOf 5 (10, .aload_n 0, 1) rfl) rfl ?_
    refine fg_X8_15 rfl (dtk dt_X8_whyNotOf 6 (11, .getfield 15, 3) rfl) hs.1 rfl ?_
    refine x_iload_n (dtk dt_X8_whyNotOf 7 (14, .iload_n 1, 1) rfl) rfl ?_
    refine x_icmp_ne (tgt := 22) (dtk dt_X8_whyNotOf 8 (15, .if_icmp .ne 7, 3) rfl) (by decide) (fun c15 => ?_) (fun c15 => ?_)
    · skip
      refine x_bipush (v := 11) ⟨by decide, by decide⟩ (dtk dt_X8_whyNotOf 11 (22, .bipush 11, 2) rfl) ?_
      exact r_i (dtk dt_X8_whyNotOf 12 (24, .ireturn, 1) rfl) rfl (by simp_all) rfl
    · skip
      refine x_iconst (v := 0) ⟨by decide, by decide⟩ (dtk dt_X8_whyNotOf 9 (18, .iconst 0, 1) rfl) ?_
      refine x_goto (tgt := 24) (dtk dt_X8_whyNotOf 10 (19, .goto 5, 3) rfl) (by decide) ?_
      exact r_i (dtk dt_X8_whyNotOf 12 (24, .ireturn, 1) rfl) rfl (by simp_all) rfl
  · skip
    refine x_bipush (v := 10) ⟨by decide, by decide⟩ (dtk dt_X8_whyNotOf 3 (7, .bipush 10, 2) rfl) ?_
    exact r_i (dtk dt_X8_whyNotOf 4 (9, .ireturn, 1) rfl) rfl (by simp_all) rfl
set_option maxRecDepth 100000 in
set_option maxHeartbeats 1000000 in
theorem c_X8_renew {G : GG} {n : Nat} {K : KK} {M : MM} {s so q : Int} (hs : SF K M s) (hq : q ≤ 20) : MC G mi_X8_renew 2 0 0 [(1, s), (0, so), (0, q)] n K M (PQ none n K (reM M s so q)) := by
  refine MC.intro (lc := [(0, (1, s)), (1, (0, so)), (2, (0, q))]) (by decide) rfl (by simp [Nat.ble]) (Nat.le_of_ble_eq_true rfl) rfl (fun hMR => ?_)
  refine x_aload_n (dtk dt_X8_renew 0 (0, .aload_n 0, 1) rfl) rfl ?_
  refine fg_X8_9 rfl (dtk dt_X8_renew 1 (1, .getfield 9, 3) rfl) hs.1 hs.2.2 ?_
  refine x_iconst (v := 0) ⟨by decide, by decide⟩ (dtk dt_X8_renew 2 (4, .iconst 0, 1) rfl) ?_
  refine kc_X8_22 rfl (dtk dt_X8_renew 3 (5, .invokestatic 22, 3) rfl) (c_J7_fill_53178 (G := G) (q := s + 1) (ln := 20) hs.2.1 (by decide)) rfl rfl (fitR (by decide) (by decide)) (Nat.le_of_ble_eq_true rfl) (pqK ?_)
  refine x_aload_n (dtk dt_X8_renew 4 (8, .aload_n 0, 1) rfl) rfl ?_
  refine x_iload_n (dtk dt_X8_renew 5 (9, .iload_n 1, 1) rfl) rfl ?_
  refine fp_X8_15 rfl (dtk dt_X8_renew 6 (10, .putfield 15, 3) rfl) hs.1 ?_
  refine x_aload_n (dtk dt_X8_renew 7 (13, .aload_n 0, 1) rfl) rfl ?_
  refine x_iload_n (dtk dt_X8_renew 8 (14, .iload_n 2, 1) rfl) rfl ?_
  refine x_bipush (v := 20) ⟨by decide, by decide⟩ (dtk dt_X8_renew 9 (15, .bipush 20, 2) rfl) ?_
  refine kc_X8_28 rfl (dtk dt_X8_renew 10 (17, .invokestatic 28, 3) rfl) (c_J9_min_7cf53 (G := G)  ) rfl rfl (fitR (by decide) (by decide)) (Nat.le_of_ble_eq_true rfl) (pqK ?_)
  rw [if_neg (show ¬ 20 < q by omega)]
  refine fp_X8_19 rfl (dtk dt_X8_renew 11 (20, .putfield 19, 3) rfl) hs.1 ?_
  exact r_v (dtk dt_X8_renew 12 (23, .return_, 1) rfl) rfl rfl
set_option maxRecDepth 100000 in
set_option maxHeartbeats 1000000 in
theorem c_X11_findSheet {G : GG} {n : Nat} {K : KK} {M : MM} {k : Int} (hw : WF K M) (hk : 0 ≤ k ∧ k < 4) : MC G mi_X11_findSheet 1 0 0 [(1, 0), (0, k)] n K M (PQ (some (1, 28 + 2 * k)) n K (M)) := by
  refine MC.intro (lc := [(0, (1, 0)), (1, (0, k))]) (by decide) rfl (by simp [Nat.ble]) (Nat.le_of_ble_eq_true rfl) rfl (fun hMR => ?_)
  refine x_iload_n (dtk dt_X11_findSheet 0 (0, .iload_n 1, 1) rfl) rfl ?_
  refine x_if_lt (tgt := 18) (dtk dt_X11_findSheet 1 (1, .ifCond .lt 17, 3) rfl) (by decide) (fun c1 => ?_) (fun c1 => ?_)
  · skip
    exact absurd c1 (by omega)
  · skip
    refine x_iload_n (dtk dt_X11_findSheet 2 (4, .iload_n 1, 1) rfl) rfl ?_
    refine x_iconst (v := 4) ⟨by decide, by decide⟩ (dtk dt_X11_findSheet 3 (5, .iconst 4, 1) rfl) ?_
    refine x_icmp_ge (tgt := 18) (dtk dt_X11_findSheet 4 (6, .if_icmp .ge 12, 3) rfl) (by decide) (fun c6 => ?_) (fun c6 => ?_)
    · skip
      exact absurd c6 (by omega)
    · skip
      refine x_aload_n (dtk dt_X11_findSheet 5 (9, .aload_n 0, 1) rfl) rfl ?_
      refine fg_X11_39 rfl (dtk dt_X11_findSheet 6 (10, .getfield 39, 3) rfl) (wk_0 hw) (wm_0_6 hw) ?_
      refine x_iload_n (dtk dt_X11_findSheet 7 (13, .iload_n 1, 1) rfl) rfl ?_
      refine x_aald (dtk dt_X11_findSheet 8 (14, .aaload, 1) rfl) (Or.inr rfl) (wk_8 hw) ⟨by omega, by omega⟩ ?_
      rw [(sf_at hw hk).2]
      refine x_goto (tgt := 19) (dtk dt_X11_findSheet 9 (15, .goto 4, 3) rfl) (by decide) ?_
      exact r_a (dtk dt_X11_findSheet 11 (19, .areturn, 1) rfl) rfl rfl rfl
set_option maxRecDepth 100000 in
set_option maxHeartbeats 1000000 in
theorem c_X11_findSheet_no {G : GG} {n : Nat} {K : KK} {M : MM} {k : Int} (hw : WF K M) (hk : ¬ (0 ≤ k ∧ k < 4)) : MC G mi_X11_findSheet 1 0 0 [(1, 0), (0, k)] n K M (PQ (some (1, -1)) n K (M)) := by
  refine MC.intro (lc := [(0, (1, 0)), (1, (0, k))]) (by decide) rfl (by simp [Nat.ble]) (Nat.le_of_ble_eq_true rfl) rfl (fun hMR => ?_)
  refine x_iload_n (dtk dt_X11_findSheet 0 (0, .iload_n 1, 1) rfl) rfl ?_
  refine x_if_lt (tgt := 18) (dtk dt_X11_findSheet 1 (1, .ifCond .lt 17, 3) rfl) (by decide) (fun c1 => ?_) (fun c1 => ?_)
  · skip
    refine x_null (dtk dt_X11_findSheet 10 (18, .aconst_null, 1) rfl) ?_
    exact r_a (dtk dt_X11_findSheet 11 (19, .areturn, 1) rfl) rfl rfl rfl
  · skip
    refine x_iload_n (dtk dt_X11_findSheet 2 (4, .iload_n 1, 1) rfl) rfl ?_
    refine x_iconst (v := 4) ⟨by decide, by decide⟩ (dtk dt_X11_findSheet 3 (5, .iconst 4, 1) rfl) ?_
    refine x_icmp_ge (tgt := 18) (dtk dt_X11_findSheet 4 (6, .if_icmp .ge 12, 3) rfl) (by decide) (fun c6 => ?_) (fun c6 => ?_)
    · skip
      refine x_null (dtk dt_X11_findSheet 10 (18, .aconst_null, 1) rfl) ?_
      exact r_a (dtk dt_X11_findSheet 11 (19, .areturn, 1) rfl) rfl rfl rfl
    · skip
      exact absurd hk (by omega)
set_option maxRecDepth 100000 in
set_option maxHeartbeats 1000000 in
theorem c_X11_sheet {G : GG} {n : Nat} {K : KK} {M : MM} {s so q : Int} (hL : LK K M) : MC G mi_X11_sheet 3 0 0 [(1, 0), (0, s), (0, so), (0, q)] n K M (PQ (some (0, if (decide (0 ≤ s) && decide (s ≤ 3)) && (decide (-1 ≤ so) && decide (so ≤ 2)) && (decide (so = -1) || (decide (0 ≤ q) && decide (q ≤ 20))) then 1 else -1)) n K (if (decide (0 ≤ s) && decide (s ≤ 3)) && (decide (-1 ≤ so) && decide (so ≤ 2)) && (decide (so = -1) || (decide (0 ≤ q) && decide (q ≤ 20))) then st2 (reM M (28 + 2 * s) so (if so = -1 then 0 else q)) 0 11 0 else st2 M 0 11 1)) := by
  refine MC.intro (lc := [(0, (1, 0)), (1, (0, s)), (2, (0, so)), (3, (0, q))]) (by decide) rfl (by simp [Nat.ble]) (Nat.le_of_ble_eq_true rfl) rfl (fun hMR => ?_)
  refine x_aload_n (dtk dt_X11_sheet 0 (0, .aload_n 0, 1) rfl) rfl ?_
  refine x_iload_n (dtk dt_X11_sheet 1 (1, .iload_n 1, 1) rfl) rfl ?_
  by_cases hsp2_0 : 0 ≤ s ∧ s < 4
  · skip
    refine kc_X11_296 rfl (dtk dt_X11_sheet 2 (2, .invokevirtual 296, 3) rfl) (c_X11_findSheet (G := G)  hL.wf hsp2_0) rfl rfl (wk_0 hL.wf) (fitR (by decide) (by decide)) (Nat.le_of_ble_eq_true rfl) (pqK ?_)
    have hs := (sf_at hL.wf hsp2_0).1
    have hsL := hL.ls s hsp2_0.1 hsp2_0.2
    have hsz : 0 ≤ M (28 + 2 * s) 2 ∧ M (28 + 2 * s) 2 ≤ 20 := by (rw [hsL.1.2]; exact hsL.2.2.1)
    refine x_astore (dtk dt_X11_sheet 3 (5, .astore 4, 2) rfl) (by decide) ?_
    refine x_aload (dtk dt_X11_sheet 4 (7, .aload 4, 2) rfl) rfl ?_
    refine x_ifnull (tgt := 22) (dtk dt_X11_sheet 5 (9, .ifnull 13, 3) rfl) (by decide) (fun c9 => ?_) (fun c9 => ?_)
    · exact absurd c9 (by omega)
    refine x_iload_n (dtk dt_X11_sheet 6 (12, .iload_n 2, 1) rfl) rfl ?_
    refine x_iconst (v := -1) ⟨by decide, by decide⟩ (dtk dt_X11_sheet 7 (13, .iconst (-1), 1) rfl) ?_
    refine x_icmp_lt (tgt := 22) (dtk dt_X11_sheet 8 (14, .if_icmp .lt 8, 3) rfl) (by decide) (fun c14 => ?_) (fun c14 => ?_)
    · skip
      refine x_aload_n (dtk dt_X11_sheet 12 (22, .aload_n 0, 1) rfl) rfl ?_
      refine x_iconst (v := 1) ⟨by decide, by decide⟩ (dtk dt_X11_sheet 13 (23, .iconst 1, 1) rfl) ?_
      refine kc_X11_71 rfl (dtk dt_X11_sheet 14 (24, .invokevirtual 71, 3) rfl) (c_X11_refuse (G := G)  hL.wf) rfl rfl (wk_0 hL.wf) (fitR (by decide) (by decide)) (Nat.le_of_ble_eq_true rfl) (pqK ?_)
      exact r_i (dtk dt_X11_sheet 15 (27, .ireturn, 1) rfl) rfl (by rw [if_neg (by simp; omega)]) (by rw [if_neg (by simp; omega)])
    · skip
      refine x_iload_n (dtk dt_X11_sheet 9 (17, .iload_n 2, 1) rfl) rfl ?_
      refine x_iconst (v := 2) ⟨by decide, by decide⟩ (dtk dt_X11_sheet 10 (18, .iconst 2, 1) rfl) ?_
      refine x_icmp_le (tgt := 28) (dtk dt_X11_sheet 11 (19, .if_icmp .le 9, 3) rfl) (by decide) (fun c19 => ?_) (fun c19 => ?_)
      · skip
        refine x_iload_n (dtk dt_X11_sheet 16 (28, .iload_n 2, 1) rfl) rfl ?_
        refine x_iconst (v := -1) ⟨by decide, by decide⟩ (dtk dt_X11_sheet 17 (29, .iconst (-1), 1) rfl) ?_
        refine x_icmp_eq (tgt := 49) (dtk dt_X11_sheet 18 (30, .if_icmp .eq 19, 3) rfl) (by decide) (fun c30 => ?_) (fun c30 => ?_)
        · skip
          have J62_10 : ∀ (j : Int), (j = if so = -1 then 0 else q) → (((decide (0 ≤ s) && decide (s ≤ 3)) && (decide (-1 ≤ so) && decide (so ≤ 2)) && (decide (so = -1) || (decide (0 ≤ q) && decide (q ≤ 20)))) = true) → MW G mi_X11_sheet (rmd 3 0 0) (MZ G (PQ (some (0, if (decide (0 ≤ s) && decide (s ≤ 3)) && (decide (-1 ≤ so) && decide (so ≤ 2)) && (decide (so = -1) || (decide (0 ≤ q) && decide (q ≤ 20))) then 1 else -1)) n K (if (decide (0 ≤ s) && decide (s ≤ 3)) && (decide (-1 ≤ so) && decide (so ≤ 2)) && (decide (so = -1) || (decide (0 ≤ q) && decide (q ≤ 20))) then st2 (reM M (28 + 2 * s) so (if so = -1 then 0 else q)) 0 11 0 else st2 M 0 11 1)) 0 0) (0, 0) 62 [(0, (1, 0)), (1, (0, s)), (2, (0, so)), (3, (0, q)), (4, (1, 28 + 2 * s))] [(0, j), (0, so), (1, 28 + 2 * s)] n K (M) := by
            intro j hj hcs
            have hjq : j ≤ 20 := by (rw [hj]; split; omega; (simp at hcs; omega))
            refine kc_X11_300 rfl (dtk dt_X11_sheet 36 (62, .invokevirtual 300, 3) rfl) (c_X8_renew (G := G)  hs hjq) rfl rfl hs.1 (fitR (by decide) (by decide)) (Nat.le_of_ble_eq_true rfl) (pqK ?_)
            refine x_aload_n (dtk dt_X11_sheet 37 (65, .aload_n 0, 1) rfl) rfl ?_
            refine x_iconst (v := 1) ⟨by decide, by decide⟩ (dtk dt_X11_sheet 38 (66, .iconst 1, 1) rfl) ?_
            refine kc_X11_111 rfl (dtk dt_X11_sheet 39 (67, .invokevirtual 111, 3) rfl) (c_X11_answer (G := G)  (WF.shf (WF.shf (wf_shs hL.wf hsp2_0) hsp2_0 (by decide)) hsp2_0 (by decide))) rfl rfl (wk_0 hL.wf) (fitR (by decide) (by decide)) (Nat.le_of_ble_eq_true rfl) (pqK ?_)
            exact r_i (dtk dt_X11_sheet 40 (70, .ireturn, 1) rfl) rfl (by rw [if_pos hcs]) (by rw [if_pos hcs, hj])
          refine x_aload (dtk dt_X11_sheet 28 (49, .aload 4, 2) rfl) rfl ?_
          refine x_iload_n (dtk dt_X11_sheet 29 (51, .iload_n 2, 1) rfl) rfl ?_
          refine x_iload_n (dtk dt_X11_sheet 30 (52, .iload_n 2, 1) rfl) rfl ?_
          refine x_iconst (v := -1) ⟨by decide, by decide⟩ (dtk dt_X11_sheet 31 (53, .iconst (-1), 1) rfl) ?_
          refine x_icmp_ne (tgt := 61) (dtk dt_X11_sheet 32 (54, .if_icmp .ne 7, 3) rfl) (by decide) (fun c54 => ?_) (fun c54 => ?_)
          · skip
            refine x_iload_n (dtk dt_X11_sheet 35 (61, .iload_n 3, 1) rfl) rfl ?_
            refine MW.sub [1, 2, 3, 4, 0] rfl ?_
            exact J62_10 _ (by first | (rw [if_pos (by omega)]; done) | (rw [if_neg (by omega)])) (by simp; omega)
          · skip
            refine x_iconst (v := 0) ⟨by decide, by decide⟩ (dtk dt_X11_sheet 33 (57, .iconst 0, 1) rfl) ?_
            refine x_goto (tgt := 62) (dtk dt_X11_sheet 34 (58, .goto 4, 3) rfl) (by decide) ?_
            refine MW.sub [1, 2, 3, 4, 0] rfl ?_
            exact J62_10 _ (by first | (rw [if_pos (by omega)]; done) | (rw [if_neg (by omega)])) (by simp; omega)
        · skip
          refine x_iload_n (dtk dt_X11_sheet 19 (33, .iload_n 3, 1) rfl) rfl ?_
          refine x_if_lt (tgt := 43) (dtk dt_X11_sheet 20 (34, .ifCond .lt 9, 3) rfl) (by decide) (fun c34 => ?_) (fun c34 => ?_)
          · skip
            refine x_aload_n (dtk dt_X11_sheet 24 (43, .aload_n 0, 1) rfl) rfl ?_
            refine x_iconst (v := 1) ⟨by decide, by decide⟩ (dtk dt_X11_sheet 25 (44, .iconst 1, 1) rfl) ?_
            refine kc_X11_71 rfl (dtk dt_X11_sheet 26 (45, .invokevirtual 71, 3) rfl) (c_X11_refuse (G := G)  hL.wf) rfl rfl (wk_0 hL.wf) (fitR (by decide) (by decide)) (Nat.le_of_ble_eq_true rfl) (pqK ?_)
            exact r_i (dtk dt_X11_sheet 27 (48, .ireturn, 1) rfl) rfl (by rw [if_neg (by simp; omega)]) (by rw [if_neg (by simp; omega)])
          · skip
            refine x_iload_n (dtk dt_X11_sheet 21 (37, .iload_n 3, 1) rfl) rfl ?_
            refine x_bipush (v := 20) ⟨by decide, by decide⟩ (dtk dt_X11_sheet 22 (38, .bipush 20, 2) rfl) ?_
            refine x_icmp_le (tgt := 49) (dtk dt_X11_sheet 23 (40, .if_icmp .le 9, 3) rfl) (by decide) (fun c40 => ?_) (fun c40 => ?_)
            · skip
              have J62_14 : ∀ (j : Int), (j = if so = -1 then 0 else q) → (((decide (0 ≤ s) && decide (s ≤ 3)) && (decide (-1 ≤ so) && decide (so ≤ 2)) && (decide (so = -1) || (decide (0 ≤ q) && decide (q ≤ 20)))) = true) → MW G mi_X11_sheet (rmd 3 0 0) (MZ G (PQ (some (0, if (decide (0 ≤ s) && decide (s ≤ 3)) && (decide (-1 ≤ so) && decide (so ≤ 2)) && (decide (so = -1) || (decide (0 ≤ q) && decide (q ≤ 20))) then 1 else -1)) n K (if (decide (0 ≤ s) && decide (s ≤ 3)) && (decide (-1 ≤ so) && decide (so ≤ 2)) && (decide (so = -1) || (decide (0 ≤ q) && decide (q ≤ 20))) then st2 (reM M (28 + 2 * s) so (if so = -1 then 0 else q)) 0 11 0 else st2 M 0 11 1)) 0 0) (0, 0) 62 [(0, (1, 0)), (1, (0, s)), (2, (0, so)), (3, (0, q)), (4, (1, 28 + 2 * s))] [(0, j), (0, so), (1, 28 + 2 * s)] n K (M) := by
                intro j hj hcs
                have hjq : j ≤ 20 := by (rw [hj]; split; omega; (simp at hcs; omega))
                refine kc_X11_300 rfl (dtk dt_X11_sheet 36 (62, .invokevirtual 300, 3) rfl) (c_X8_renew (G := G)  hs hjq) rfl rfl hs.1 (fitR (by decide) (by decide)) (Nat.le_of_ble_eq_true rfl) (pqK ?_)
                refine x_aload_n (dtk dt_X11_sheet 37 (65, .aload_n 0, 1) rfl) rfl ?_
                refine x_iconst (v := 1) ⟨by decide, by decide⟩ (dtk dt_X11_sheet 38 (66, .iconst 1, 1) rfl) ?_
                refine kc_X11_111 rfl (dtk dt_X11_sheet 39 (67, .invokevirtual 111, 3) rfl) (c_X11_answer (G := G)  (WF.shf (WF.shf (wf_shs hL.wf hsp2_0) hsp2_0 (by decide)) hsp2_0 (by decide))) rfl rfl (wk_0 hL.wf) (fitR (by decide) (by decide)) (Nat.le_of_ble_eq_true rfl) (pqK ?_)
                exact r_i (dtk dt_X11_sheet 40 (70, .ireturn, 1) rfl) rfl (by rw [if_pos hcs]) (by rw [if_pos hcs, hj])
              refine x_aload (dtk dt_X11_sheet 28 (49, .aload 4, 2) rfl) rfl ?_
              refine x_iload_n (dtk dt_X11_sheet 29 (51, .iload_n 2, 1) rfl) rfl ?_
              refine x_iload_n (dtk dt_X11_sheet 30 (52, .iload_n 2, 1) rfl) rfl ?_
              refine x_iconst (v := -1) ⟨by decide, by decide⟩ (dtk dt_X11_sheet 31 (53, .iconst (-1), 1) rfl) ?_
              refine x_icmp_ne (tgt := 61) (dtk dt_X11_sheet 32 (54, .if_icmp .ne 7, 3) rfl) (by decide) (fun c54 => ?_) (fun c54 => ?_)
              · skip
                refine x_iload_n (dtk dt_X11_sheet 35 (61, .iload_n 3, 1) rfl) rfl ?_
                refine MW.sub [1, 2, 3, 4, 0] rfl ?_
                exact J62_14 _ (by first | (rw [if_pos (by omega)]; done) | (rw [if_neg (by omega)])) (by simp; omega)
              · skip
                refine x_iconst (v := 0) ⟨by decide, by decide⟩ (dtk dt_X11_sheet 33 (57, .iconst 0, 1) rfl) ?_
                refine x_goto (tgt := 62) (dtk dt_X11_sheet 34 (58, .goto 4, 3) rfl) (by decide) ?_
                refine MW.sub [1, 2, 3, 4, 0] rfl ?_
                exact J62_14 _ (by first | (rw [if_pos (by omega)]; done) | (rw [if_neg (by omega)])) (by simp; omega)
            · skip
              refine x_aload_n (dtk dt_X11_sheet 24 (43, .aload_n 0, 1) rfl) rfl ?_
              refine x_iconst (v := 1) ⟨by decide, by decide⟩ (dtk dt_X11_sheet 25 (44, .iconst 1, 1) rfl) ?_
              refine kc_X11_71 rfl (dtk dt_X11_sheet 26 (45, .invokevirtual 71, 3) rfl) (c_X11_refuse (G := G)  hL.wf) rfl rfl (wk_0 hL.wf) (fitR (by decide) (by decide)) (Nat.le_of_ble_eq_true rfl) (pqK ?_)
              exact r_i (dtk dt_X11_sheet 27 (48, .ireturn, 1) rfl) rfl (by rw [if_neg (by simp; omega)]) (by rw [if_neg (by simp; omega)])
      · skip
        refine x_aload_n (dtk dt_X11_sheet 12 (22, .aload_n 0, 1) rfl) rfl ?_
        refine x_iconst (v := 1) ⟨by decide, by decide⟩ (dtk dt_X11_sheet 13 (23, .iconst 1, 1) rfl) ?_
        refine kc_X11_71 rfl (dtk dt_X11_sheet 14 (24, .invokevirtual 71, 3) rfl) (c_X11_refuse (G := G)  hL.wf) rfl rfl (wk_0 hL.wf) (fitR (by decide) (by decide)) (Nat.le_of_ble_eq_true rfl) (pqK ?_)
        exact r_i (dtk dt_X11_sheet 15 (27, .ireturn, 1) rfl) rfl (by rw [if_neg (by simp; omega)]) (by rw [if_neg (by simp; omega)])
  refine kc_X11_296 rfl (dtk dt_X11_sheet 2 (2, .invokevirtual 296, 3) rfl) (c_X11_findSheet_no (G := G)  hL.wf hsp2_0) rfl rfl (wk_0 hL.wf) (fitR (by decide) (by decide)) (Nat.le_of_ble_eq_true rfl) (pqK ?_)
  refine x_astore (dtk dt_X11_sheet 3 (5, .astore 4, 2) rfl) (by decide) ?_
  refine x_aload (dtk dt_X11_sheet 4 (7, .aload 4, 2) rfl) rfl ?_
  refine x_ifnull (tgt := 22) (dtk dt_X11_sheet 5 (9, .ifnull 13, 3) rfl) (by decide) (fun c9 => ?_) (fun c9 => ?_)
  rotate_left
  · exact absurd c9 (by decide)
  refine x_aload_n (dtk dt_X11_sheet 12 (22, .aload_n 0, 1) rfl) rfl ?_
  refine x_iconst (v := 1) ⟨by decide, by decide⟩ (dtk dt_X11_sheet 13 (23, .iconst 1, 1) rfl) ?_
  refine kc_X11_71 rfl (dtk dt_X11_sheet 14 (24, .invokevirtual 71, 3) rfl) (c_X11_refuse (G := G)  hL.wf) rfl rfl (wk_0 hL.wf) (fitR (by decide) (by decide)) (Nat.le_of_ble_eq_true rfl) (pqK ?_)
  exact r_i (dtk dt_X11_sheet 15 (27, .ireturn, 1) rfl) rfl (by rw [if_neg (by simp; omega)]) (by rw [if_neg (by simp; omega)])
set_option maxRecDepth 100000 in
set_option maxHeartbeats 1000000 in
theorem c_X11_cell {G : GG} {n : Nat} {K : KK} {M : MM} {s i v : Int} (hL : LK K M) : MC G mi_X11_cell 2 0 0 [(1, 0), (0, s), (0, i), (0, v)] n K M (PQ (some (0, if (decide (0 ≤ s) && decide (s ≤ 3)) && (decide (0 ≤ v) && decide (v ≤ 100)) then (if M 42 s = -1 then -1 else if 0 ≤ i ∧ i < M 43 s then 1 else -1) else -1)) n K (if (decide (0 ≤ s) && decide (s ≤ 3)) && (decide (0 ≤ v) && decide (v ≤ 100)) then (if M 42 s = -1 then st2 M 0 11 10 else if 0 ≤ i ∧ i < M 43 s then st2 (st2 M (28 + 2 * s + 1) i v) 0 11 0 else st2 M 0 11 12) else st2 M 0 11 1)) := by
  refine MC.intro (lc := [(0, (1, 0)), (1, (0, s)), (2, (0, i)), (3, (0, v))]) (by decide) rfl (by simp [Nat.ble]) (Nat.le_of_ble_eq_true rfl) rfl (fun hMR => ?_)
  refine x_aload_n (dtk dt_X11_cell 0 (0, .aload_n 0, 1) rfl) rfl ?_
  refine x_iload_n (dtk dt_X11_cell 1 (1, .iload_n 1, 1) rfl) rfl ?_
  by_cases hsp2_0 : 0 ≤ s ∧ s < 4
  · skip
    refine kc_X11_296 rfl (dtk dt_X11_cell 2 (2, .invokevirtual 296, 3) rfl) (c_X11_findSheet (G := G)  hL.wf hsp2_0) rfl rfl (wk_0 hL.wf) (fitR (by decide) (by decide)) (Nat.le_of_ble_eq_true rfl) (pqK ?_)
    have hs := (sf_at hL.wf hsp2_0).1
    have hsL := hL.ls s hsp2_0.1 hsp2_0.2
    have hsz : 0 ≤ M (28 + 2 * s) 2 ∧ M (28 + 2 * s) 2 ≤ 20 := by (rw [hsL.1.2]; exact hsL.2.2.1)
    refine x_astore (dtk dt_X11_cell 3 (5, .astore 4, 2) rfl) (by decide) ?_
    refine x_aload (dtk dt_X11_cell 4 (7, .aload 4, 2) rfl) rfl ?_
    refine x_ifnull (tgt := 22) (dtk dt_X11_cell 5 (9, .ifnull 13, 3) rfl) (by decide) (fun c9 => ?_) (fun c9 => ?_)
    · exact absurd c9 (by omega)
    refine x_iload_n (dtk dt_X11_cell 6 (12, .iload_n 3, 1) rfl) rfl ?_
    refine x_if_lt (tgt := 22) (dtk dt_X11_cell 7 (13, .ifCond .lt 9, 3) rfl) (by decide) (fun c13 => ?_) (fun c13 => ?_)
    · skip
      refine x_aload_n (dtk dt_X11_cell 11 (22, .aload_n 0, 1) rfl) rfl ?_
      refine x_iconst (v := 1) ⟨by decide, by decide⟩ (dtk dt_X11_cell 12 (23, .iconst 1, 1) rfl) ?_
      refine kc_X11_71 rfl (dtk dt_X11_cell 13 (24, .invokevirtual 71, 3) rfl) (c_X11_refuse (G := G)  hL.wf) rfl rfl (wk_0 hL.wf) (fitR (by decide) (by decide)) (Nat.le_of_ble_eq_true rfl) (pqK ?_)
      exact r_i (dtk dt_X11_cell 14 (27, .ireturn, 1) rfl) rfl (by rw [if_neg (by simp; omega)]) (by rw [if_neg (by simp; omega)])
    · skip
      refine x_iload_n (dtk dt_X11_cell 8 (16, .iload_n 3, 1) rfl) rfl ?_
      refine x_bipush (v := 100) ⟨by decide, by decide⟩ (dtk dt_X11_cell 9 (17, .bipush 100, 2) rfl) ?_
      refine x_icmp_le (tgt := 28) (dtk dt_X11_cell 10 (19, .if_icmp .le 9, 3) rfl) (by decide) (fun c19 => ?_) (fun c19 => ?_)
      · skip
        refine x_aload (dtk dt_X11_cell 15 (28, .aload 4, 2) rfl) rfl ?_
        refine kc_X11_303 rfl (dtk dt_X11_cell 16 (30, .invokevirtual 303, 3) rfl) (c_X8_isMissing (G := G)  hs) rfl rfl hs.1 (fitR (by decide) (by decide)) (Nat.le_of_ble_eq_true rfl) (pqK ?_)
        rw [hsL.1.1]
        refine x_if_eqB (tgt := 43) (dtk dt_X11_cell 17 (33, .ifCond .eq 10, 3) rfl) (by decide) (fun c33 => ?_) (fun c33 => ?_)
        · skip
          have hms : ¬ M 42 s = -1 := by simpa using c33
          have hc : ((decide (0 ≤ s) && decide (s ≤ 3)) && (decide (0 ≤ v) && decide (v ≤ 100))) = true := by (simp; omega)
          refine x_aload (dtk dt_X11_cell 22 (43, .aload 4, 2) rfl) rfl ?_
          refine x_iload_n (dtk dt_X11_cell 23 (45, .iload_n 2, 1) rfl) rfl ?_
          refine kc_X11_307 rfl (dtk dt_X11_cell 24 (46, .invokevirtual 307, 3) rfl) (c_X8_hasPlace (G := G)  hs) rfl rfl hs.1 (fitR (by decide) (by decide)) (Nat.le_of_ble_eq_true rfl) (pqK ?_)
          rw [hsL.1.2]
          refine x_if_neB (tgt := 59) (dtk dt_X11_cell 25 (49, .ifCond .ne 10, 3) rfl) (by decide) (fun c49 => ?_) (fun c49 => ?_)
          · skip
            have hi : 0 ≤ i ∧ i < M 43 s := by simpa using c49
            refine x_aload (dtk dt_X11_cell 30 (59, .aload 4, 2) rfl) rfl ?_
            refine fg_X11_310 rfl (dtk dt_X11_cell 31 (61, .getfield 310, 3) rfl) hs.1 hs.2.2 ?_
            refine x_iload_n (dtk dt_X11_cell 32 (64, .iload_n 2, 1) rfl) rfl ?_
            refine x_iload_n (dtk dt_X11_cell 33 (65, .iload_n 3, 1) rfl) rfl ?_
            refine x_iast (dtk dt_X11_cell 34 (66, .iastore, 1) rfl) hs.2.1 ⟨by omega, by have z := hsL.2.2.1; omega⟩ ?_
            refine x_aload_n (dtk dt_X11_cell 35 (67, .aload_n 0, 1) rfl) rfl ?_
            refine x_iconst (v := 1) ⟨by decide, by decide⟩ (dtk dt_X11_cell 36 (68, .iconst 1, 1) rfl) ?_
            refine kc_X11_111 rfl (dtk dt_X11_cell 37 (69, .invokevirtual 111, 3) rfl) (c_X11_answer (G := G)  (WF.sha hL.wf hsp2_0)) rfl rfl (wk_0 hL.wf) (fitR (by decide) (by decide)) (Nat.le_of_ble_eq_true rfl) (pqK ?_)
            exact r_i (dtk dt_X11_cell 38 (72, .ireturn, 1) rfl) rfl (by rw [if_pos hc, if_neg hms, if_pos hi]) (by rw [if_pos hc, if_neg hms, if_pos hi])
          · skip
            have hi : ¬ (0 ≤ i ∧ i < M 43 s) := by (simp at c49; omega)
            refine x_aload_n (dtk dt_X11_cell 26 (52, .aload_n 0, 1) rfl) rfl ?_
            refine x_bipush (v := 12) ⟨by decide, by decide⟩ (dtk dt_X11_cell 27 (53, .bipush 12, 2) rfl) ?_
            refine kc_X11_71 rfl (dtk dt_X11_cell 28 (55, .invokevirtual 71, 3) rfl) (c_X11_refuse (G := G)  hL.wf) rfl rfl (wk_0 hL.wf) (fitR (by decide) (by decide)) (Nat.le_of_ble_eq_true rfl) (pqK ?_)
            exact r_i (dtk dt_X11_cell 29 (58, .ireturn, 1) rfl) rfl (by rw [if_pos hc, if_neg hms, if_neg hi]) (by rw [if_pos hc, if_neg hms, if_neg hi])
        · skip
          have hms : M 42 s = -1 := by simpa using c33
          have hc : ((decide (0 ≤ s) && decide (s ≤ 3)) && (decide (0 ≤ v) && decide (v ≤ 100))) = true := by (simp; omega)
          refine x_aload_n (dtk dt_X11_cell 18 (36, .aload_n 0, 1) rfl) rfl ?_
          refine x_bipush (v := 10) ⟨by decide, by decide⟩ (dtk dt_X11_cell 19 (37, .bipush 10, 2) rfl) ?_
          refine kc_X11_71 rfl (dtk dt_X11_cell 20 (39, .invokevirtual 71, 3) rfl) (c_X11_refuse (G := G)  hL.wf) rfl rfl (wk_0 hL.wf) (fitR (by decide) (by decide)) (Nat.le_of_ble_eq_true rfl) (pqK ?_)
          exact r_i (dtk dt_X11_cell 21 (42, .ireturn, 1) rfl) rfl (by rw [if_pos hc, if_pos hms]) (by rw [if_pos hc, if_pos hms])
      · skip
        refine x_aload_n (dtk dt_X11_cell 11 (22, .aload_n 0, 1) rfl) rfl ?_
        refine x_iconst (v := 1) ⟨by decide, by decide⟩ (dtk dt_X11_cell 12 (23, .iconst 1, 1) rfl) ?_
        refine kc_X11_71 rfl (dtk dt_X11_cell 13 (24, .invokevirtual 71, 3) rfl) (c_X11_refuse (G := G)  hL.wf) rfl rfl (wk_0 hL.wf) (fitR (by decide) (by decide)) (Nat.le_of_ble_eq_true rfl) (pqK ?_)
        exact r_i (dtk dt_X11_cell 14 (27, .ireturn, 1) rfl) rfl (by rw [if_neg (by simp; omega)]) (by rw [if_neg (by simp; omega)])
  refine kc_X11_296 rfl (dtk dt_X11_cell 2 (2, .invokevirtual 296, 3) rfl) (c_X11_findSheet_no (G := G)  hL.wf hsp2_0) rfl rfl (wk_0 hL.wf) (fitR (by decide) (by decide)) (Nat.le_of_ble_eq_true rfl) (pqK ?_)
  refine x_astore (dtk dt_X11_cell 3 (5, .astore 4, 2) rfl) (by decide) ?_
  refine x_aload (dtk dt_X11_cell 4 (7, .aload 4, 2) rfl) rfl ?_
  refine x_ifnull (tgt := 22) (dtk dt_X11_cell 5 (9, .ifnull 13, 3) rfl) (by decide) (fun c9 => ?_) (fun c9 => ?_)
  rotate_left
  · exact absurd c9 (by decide)
  refine x_aload_n (dtk dt_X11_cell 11 (22, .aload_n 0, 1) rfl) rfl ?_
  refine x_iconst (v := 1) ⟨by decide, by decide⟩ (dtk dt_X11_cell 12 (23, .iconst 1, 1) rfl) ?_
  refine kc_X11_71 rfl (dtk dt_X11_cell 13 (24, .invokevirtual 71, 3) rfl) (c_X11_refuse (G := G)  hL.wf) rfl rfl (wk_0 hL.wf) (fitR (by decide) (by decide)) (Nat.le_of_ble_eq_true rfl) (pqK ?_)
  exact r_i (dtk dt_X11_cell 14 (27, .ireturn, 1) rfl) rfl (by rw [if_neg (by simp; omega)]) (by rw [if_neg (by simp; omega)])
set_option maxRecDepth 100000 in
set_option maxHeartbeats 1000000 in
theorem c_X11_tellPairs {G : GG} {n : Nat} {K : KK} {M : MM} {sa q : Int} {p nm m : Int} {ci : Nat} {d : Int → Int} (hO : OB K M p ci nm m d) (hs : SF K M sa) (hz : 0 ≤ M sa 2 ∧ M sa 2 ≤ 20) (hq : 0 ≤ q ∧ 2 * q ≤ M sa 2) (hlo : sa + 1 < p) : MC G mi_X11_tellPairs 6 0 0 [(1, p), (1, sa), (0, q)] n K M (UQ (so p) (some (0, (prP m (M (sa + 1)) q.toNat 0 d).1)) n K M (fun M' => OB K M' p ci nm m (prP m (M (sa + 1)) q.toNat 0 d).2)) := by
  refine MC.intro (lc := [(0, (1, p)), (1, (1, sa)), (2, (0, q))]) (by decide) rfl (by simp [Nat.ble]) (Nat.le_of_ble_eq_true rfl) rfl (fun hMR => ?_)
  have hsz := hO.sz
  have hg := hO.ge
  refine x_iconst (v := 0) ⟨by decide, by decide⟩ (dtk dt_X11_tellPairs 0 (0, .iconst 0, 1) rfl) ?_
  refine x_istore_n (dtk dt_X11_tellPairs 1 (1, .istore_n 3, 1) rfl) (by decide) ?_
  have L2 : ∀ (fu : Nat) (v3 : Int) (M1 : MM) (D1 : Int → Int), (OB K M1 p ci nm m D1) → (0 ≤ v3 ∧ v3 ≤ q) → (so p M M1) → (prP m (M (sa + 1)) (q - v3).toNat v3 D1 = prP m (M (sa + 1)) q.toNat 0 d) → (q - v3).toNat = fu → MW G mi_X11_tellPairs (rmd 6 0 0) (MZ G (UQ (so p) (some (0, (prP m (M (sa + 1)) q.toNat 0 d).1)) n K M (fun M' => OB K M' p ci nm m (prP m (M (sa + 1)) q.toNat 0 d).2)) 0 0) (0, 0) 2 [(0, (1, p)), (1, (1, sa)), (2, (0, q)), (3, (0, v3))] [] n K (M1) := by
    intro fu
    induction fu using Nat.strongRecOn with
    | ind fu ih2 =>
      intro v3 M1 D1 hO1 h1 hs1 h2 hk2
      have hs9 : SF K M1 sa := ⟨hs.1, hs.2.1, by (rw [hs1 sa (Or.inl (by omega))]; exact hs.2.2)⟩
      have e1 : M1 sa = M sa := hs1 sa (Or.inl (by omega))
      have e2 : M1 (sa + 1) = M (sa + 1) := hs1 (sa + 1) (Or.inl (by omega))
      refine x_iload_n (dtk dt_X11_tellPairs 2 (2, .iload_n 3, 1) rfl) rfl ?_
      refine x_iload_n (dtk dt_X11_tellPairs 3 (3, .iload_n 2, 1) rfl) rfl ?_
      refine x_icmp_ge (tgt := 73) (dtk dt_X11_tellPairs 4 (4, .if_icmp .ge 69, 3) rfl) (by decide) (fun c4 => ?_) (fun c4 => ?_)
      · skip
        refine x_iload_n (dtk dt_X11_tellPairs 41 (73, .iload_n 2, 1) rfl) rfl ?_
        exact ru_i (dtk dt_X11_tellPairs 42 (74, .ireturn, 1) rfl) rfl (by rw [← h2, show (q - v3).toNat = 0 by omega]; show _ = v3; omega) hs1 (by rw [← h2, show (q - v3).toNat = 0 by omega]; exact hO1)
      · skip
        refine x_aload_n (dtk dt_X11_tellPairs 5 (7, .aload_n 1, 1) rfl) rfl ?_
        refine x_iconst (v := 2) ⟨by decide, by decide⟩ (dtk dt_X11_tellPairs 6 (8, .iconst 2, 1) rfl) ?_
        refine x_iload_n (dtk dt_X11_tellPairs 7 (9, .iload_n 3, 1) rfl) rfl ?_
        refine y_imul (dtk dt_X11_tellPairs 8 (10, .imul, 1) rfl) ⟨by omega, by omega⟩ ?_
        refine kc_X11_340 rfl (dtk dt_X11_tellPairs 9 (11, .invokevirtual 340, 3) rfl) (c_X8_numberAt (G := G)  hs9 (by rw [e1]; exact hz)) rfl rfl hs.1 (fitR (by decide) (by decide)) (Nat.le_of_ble_eq_true rfl) (pqK ?_)
        rw [e1, e2, if_pos (show 0 ≤ 2 * v3 ∧ 2 * v3 < M sa 2 by omega)]
        refine x_istore (dtk dt_X11_tellPairs 10 (14, .istore 4, 2) rfl) (by decide) ?_
        refine x_aload_n (dtk dt_X11_tellPairs 11 (16, .aload_n 1, 1) rfl) rfl ?_
        refine x_iconst (v := 2) ⟨by decide, by decide⟩ (dtk dt_X11_tellPairs 12 (17, .iconst 2, 1) rfl) ?_
        refine x_iload_n (dtk dt_X11_tellPairs 13 (18, .iload_n 3, 1) rfl) rfl ?_
        refine y_imul (dtk dt_X11_tellPairs 14 (19, .imul, 1) rfl) ⟨by omega, by omega⟩ ?_
        refine x_iconst (v := 1) ⟨by decide, by decide⟩ (dtk dt_X11_tellPairs 15 (20, .iconst 1, 1) rfl) ?_
        refine y_iadd (dtk dt_X11_tellPairs 16 (21, .iadd, 1) rfl) ⟨by omega, by omega⟩ ?_
        refine kc_X11_340 rfl (dtk dt_X11_tellPairs 17 (22, .invokevirtual 340, 3) rfl) (c_X8_numberAt (G := G)  hs9 (by rw [e1]; exact hz)) rfl rfl hs.1 (fitR (by decide) (by decide)) (Nat.le_of_ble_eq_true rfl) (pqK ?_)
        rw [e1, e2, if_pos (show 0 ≤ 2 * v3 + 1 ∧ 2 * v3 + 1 < M sa 2 by omega)]
        refine x_istore (dtk dt_X11_tellPairs 18 (25, .istore 5, 2) rfl) (by decide) ?_
        refine x_aload_n (dtk dt_X11_tellPairs 19 (27, .aload_n 0, 1) rfl) rfl ?_
        refine x_iload (dtk dt_X11_tellPairs 20 (28, .iload 4, 2) rfl) rfl ?_
        refine x_iload (dtk dt_X11_tellPairs 21 (30, .iload 5, 2) rfl) rfl ?_
        refine kc_X11_90 rfl (dtk dt_X11_tellPairs 22 (32, .invokevirtual 90, 3) rfl) (c_X4_hasThings (G := G)  hO1) rfl rfl hO1.k hO1.c (fitR (by decide) (by decide)) (Nat.le_of_ble_eq_true rfl) (pqK ?_)
        refine x_if_eqB (tgt := 56) (dtk dt_X11_tellPairs 23 (35, .ifCond .eq 21, 3) rfl) (by decide) (fun c35 => ?_) (fun c35 => ?_)
        · skip
          have hng : goD m D1 (M (sa + 1) (2 * v3)) (M (sa + 1) (2 * v3 + 1)) = false := by (unfold goD; rw [c35]; rfl)
          refine x_iload_n (dtk dt_X11_tellPairs 32 (56, .iload_n 3, 1) rfl) rfl ?_
          exact ru_i (dtk dt_X11_tellPairs 33 (57, .ireturn, 1) rfl) rfl (by rw [← h2, show (q - v3).toNat = (q - (v3 + 1)).toNat + 1 by omega]; rw [prP_no hng]) hs1 (by rw [← h2, show (q - v3).toNat = (q - (v3 + 1)).toNat + 1 by omega]; rw [prP_no hng]; exact hO1)
        · skip
          have hin : (0 ≤ M (sa + 1) (2 * v3) ∧ M (sa + 1) (2 * v3) < m) ∧ (0 ≤ M (sa + 1) (2 * v3 + 1) ∧ M (sa + 1) (2 * v3 + 1) < m) := by simpa [and_assoc] using c35
          refine x_iload (dtk dt_X11_tellPairs 24 (38, .iload 4, 2) rfl) rfl ?_
          refine x_iload (dtk dt_X11_tellPairs 25 (40, .iload 5, 2) rfl) rfl ?_
          refine x_icmp_eq (tgt := 56) (dtk dt_X11_tellPairs 26 (42, .if_icmp .eq 14, 3) rfl) (by decide) (fun c42 => ?_) (fun c42 => ?_)
          · skip
            have hng : goD m D1 (M (sa + 1) (2 * v3)) (M (sa + 1) (2 * v3 + 1)) = false := by (unfold goD; rw [decide_eq_false (show ¬ M (sa + 1) (2 * v3) ≠ M (sa + 1) (2 * v3 + 1) by omega)]; simp)
            refine x_iload_n (dtk dt_X11_tellPairs 32 (56, .iload_n 3, 1) rfl) rfl ?_
            exact ru_i (dtk dt_X11_tellPairs 33 (57, .ireturn, 1) rfl) rfl (by rw [← h2, show (q - v3).toNat = (q - (v3 + 1)).toNat + 1 by omega]; rw [prP_no hng]) hs1 (by rw [← h2, show (q - v3).toNat = (q - (v3 + 1)).toNat + 1 by omega]; rw [prP_no hng]; exact hO1)
          · skip
            refine x_aload_n (dtk dt_X11_tellPairs 27 (45, .aload_n 0, 1) rfl) rfl ?_
            refine x_iload (dtk dt_X11_tellPairs 28 (46, .iload 5, 2) rfl) rfl ?_
            refine x_iload (dtk dt_X11_tellPairs 29 (48, .iload 4, 2) rfl) rfl ?_
            refine kc_X11_98 rfl (dtk dt_X11_tellPairs 30 (50, .invokevirtual 98, 3) rfl) (c_X4_isBelow (G := G)  hO1 (by omega) (by omega)) rfl rfl hO1.k hO1.c (fitR (by decide) (by decide)) (Nat.le_of_ble_eq_true rfl) (pqK ?_)
            refine x_if_eqB (tgt := 58) (dtk dt_X11_tellPairs 31 (53, .ifCond .eq 5, 3) rfl) (by decide) (fun c53 => ?_) (fun c53 => ?_)
            · skip
              have hgo : goD m D1 (M (sa + 1) (2 * v3)) (M (sa + 1) (2 * v3 + 1)) = true := by (unfold goD; rw [c35, c53, decide_eq_true c42]; rfl)
              refine x_aload_n (dtk dt_X11_tellPairs 34 (58, .aload_n 0, 1) rfl) rfl ?_
              refine x_iload (dtk dt_X11_tellPairs 35 (59, .iload 4, 2) rfl) rfl ?_
              refine x_iload (dtk dt_X11_tellPairs 36 (61, .iload 5, 2) rfl) rfl ?_
              refine kc_X11_108 rfl (dtk dt_X11_tellPairs 37 (63, .invokevirtual 108, 3) rfl) (c_X4_tellPair (G := G)  hO1 (by omega) (by omega)) rfl rfl hO1.k hO1.c (fitR (by decide) (by decide)) (Nat.le_of_ble_eq_true rfl) (uqK (fun M63_1 hs63_1 hE63_1 => ?_))
              have hE := hE63_1
              refine x_pop rfl (dtk dt_X11_tellPairs 38 (66, .pop, 1) rfl) ?_
              refine y_iinc (dtk dt_X11_tellPairs 39 (67, .iinc 3 1, 3) rfl) rfl (by decide) ⟨by omega, by omega⟩ ?_
              refine x_goto (tgt := 2) (dtk dt_X11_tellPairs 40 (70, .goto (-68), 3) rfl) (by decide) ?_
              refine MW.sub [3, 4, 5, 0] rfl ?_
              exact ih2 _ (by omega) _ _ _ hE (by omega) (hs1.tr hs63_1) (by rw [← h2, show (q - v3).toNat = (q - (v3 + 1)).toNat + 1 by omega]; rw [prP_go hgo]; rfl) rfl
            · skip
              have hng : goD m D1 (M (sa + 1) (2 * v3)) (M (sa + 1) (2 * v3 + 1)) = false := by (unfold goD; rw [c53]; simp)
              refine x_iload_n (dtk dt_X11_tellPairs 32 (56, .iload_n 3, 1) rfl) rfl ?_
              exact ru_i (dtk dt_X11_tellPairs 33 (57, .ireturn, 1) rfl) rfl (by rw [← h2, show (q - v3).toNat = (q - (v3 + 1)).toNat + 1 by omega]; rw [prP_no hng]) hs1 (by rw [← h2, show (q - v3).toNat = (q - (v3 + 1)).toNat + 1 by omega]; rw [prP_no hng]; exact hO1)
  refine MW.sub [1, 2, 3, 0] rfl ?_
  exact L2 _ _ _ _ hO (by omega) so.rf (by rw [Int.sub_zero]) rfl
