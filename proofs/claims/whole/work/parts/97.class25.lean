/-! ===== the class: act ===== -/
set_option maxRecDepth 100000 in
set_option maxHeartbeats 1000000 in
theorem c_X11_act {G : GG} {n : Nat} {K : KK} {M : MM} {o w x : Int} (hL : LK K M) : MC G mi_X11_act 9 0 0 [(1, 0), (0, o), (0, w), (0, x)] n K M (PQ (some (0, if isOr M o && (decide (0 ≤ w) && decide (w ≤ 3)) then actR w (M 37 o) (M 38 o) (prs (M 38 o) (dM M o)) o x else -1)) n K (if isOr M o && (decide (0 ≤ w) && decide (w ≤ 3)) then st2 (adL (st2 M 6 1 0) (actT w (M 37 o))) 0 11 0 else st2 M 0 11 1)) := by
  refine MC.intro (lc := [(0, (1, 0)), (1, (0, o)), (2, (0, w)), (3, (0, x))]) (by decide) rfl (by simp [Nat.ble]) (Nat.le_of_ble_eq_true rfl) rfl (fun hMR => ?_)
  refine x_aload_n (dtk dt_X11_act 0 (0, .aload_n 0, 1) rfl) rfl ?_
  refine x_iload_n (dtk dt_X11_act 1 (1, .iload_n 1, 1) rfl) rfl ?_
  by_cases hsp2_0 : 0 ≤ o ∧ o < M 36 0
  · skip
    refine kc_X11_86 rfl (dtk dt_X11_act 2 (2, .invokevirtual 86, 3) rfl) (c_X11_find (G := G)  hL.wf (by rw [hL.cnt]; exact hsp2_0) (by rw [hL.cnt]; exact hL.c8.2)) rfl rfl (wk_0 hL.wf) (fitR (by decide) (by decide)) (Nat.le_of_ble_eq_true rfl) (pqK ?_)
    have hO := hL.ob hsp2_0
    have hOg := hO.ge
    have hOs := hO.sz
    have hOP := hL.po hsp2_0
    have hOi := isOr_y hsp2_0
    have hkd := hL.kd hsp2_0
    have hl6 := ln_6 hL.wf (by have z := hL.lt.1; omega)
    refine x_astore (dtk dt_X11_act 3 (5, .astore 4, 2) rfl) (by decide) ?_
    refine x_aload (dtk dt_X11_act 4 (7, .aload 4, 2) rfl) rfl ?_
    refine x_ifnull (tgt := 21) (dtk dt_X11_act 5 (9, .ifnull 12, 3) rfl) (by decide) (fun c9 => ?_) (fun c9 => ?_)
    · exact absurd c9 (by omega)
    refine x_iload_n (dtk dt_X11_act 6 (12, .iload_n 2, 1) rfl) rfl ?_
    refine x_if_lt (tgt := 21) (dtk dt_X11_act 7 (13, .ifCond .lt 8, 3) rfl) (by decide) (fun c13 => ?_) (fun c13 => ?_)
    · skip
      refine x_aload_n (dtk dt_X11_act 11 (21, .aload_n 0, 1) rfl) rfl ?_
      refine x_iconst (v := 1) ⟨by decide, by decide⟩ (dtk dt_X11_act 12 (22, .iconst 1, 1) rfl) ?_
      refine kc_X11_71 rfl (dtk dt_X11_act 13 (23, .invokevirtual 71, 3) rfl) (c_X11_refuse (G := G)  hL.wf) rfl rfl (wk_0 hL.wf) (fitR (by decide) (by decide)) (Nat.le_of_ble_eq_true rfl) (pqK ?_)
      exact r_i (dtk dt_X11_act 14 (26, .ireturn, 1) rfl) rfl (by rw [if_neg (show ¬ (isOr M o && (decide (0 ≤ w) && decide (w ≤ 3))) = true by (first | (rw [isOr_n hsp2_0]; simp; done) | (simp; omega)))]) (by rw [if_neg (show ¬ (isOr M o && (decide (0 ≤ w) && decide (w ≤ 3))) = true by (first | (rw [isOr_n hsp2_0]; simp; done) | (simp; omega)))])
    · skip
      refine x_iload_n (dtk dt_X11_act 8 (16, .iload_n 2, 1) rfl) rfl ?_
      refine x_iconst (v := 3) ⟨by decide, by decide⟩ (dtk dt_X11_act 9 (17, .iconst 3, 1) rfl) ?_
      refine x_icmp_le (tgt := 27) (dtk dt_X11_act 10 (18, .if_icmp .le 9, 3) rfl) (by decide) (fun c18 => ?_) (fun c18 => ?_)
      · skip
        refine x_aload_n (dtk dt_X11_act 15 (27, .aload_n 0, 1) rfl) rfl ?_
        refine fg_X11_34 rfl (dtk dt_X11_act 16 (28, .getfield 34, 3) rfl) (wk_0 hL.wf) (wm_0_5 hL.wf) ?_
        refine kc_X11_105 rfl (dtk dt_X11_act 17 (31, .invokevirtual 105, 3) rfl) (c_X3_empty (G := G) (l := 6) (ln := 60) hl6) rfl rfl (wk_6 hL.wf) (fitR (by decide) (by decide)) (Nat.le_of_ble_eq_true rfl) (pqK ?_)
        have hO2 : OB K (st2 M 6 1 0) (M 1 o) (kci (M 37 o)) o (M 38 o) (dM M o) := hO.of (WF.fld 6 1 rfl hL.wf) (st2_ne M (by omega)) (st2_ne M (by omega)) (st2_ne M (by omega))
        have hl2 : LN K (st2 M 6 1 0) 6 60 := ln_6 (WF.fld 6 1 rfl hL.wf) (by simp [st2])
        refine x_iload_n (dtk dt_X11_act 18 (34, .iload_n 2, 1) rfl) rfl ?_
        by_cases s35_0 : w = 0
        · skip
          refine x_tsIn (tgt := 60) (off := 25) (dtk dt_X11_act 19 (35, .tableswitch 70 0 2 #[25, 40, 55], 25) rfl) (by omega) (by omega) (by rw [s35_0]; rfl) (by decide) ?_
          refine x_aload_n (dtk dt_X11_act 20 (60, .aload_n 0, 1) rfl) rfl ?_
          refine x_aload (dtk dt_X11_act 21 (61, .aload 4, 2) rfl) rfl ?_
          refine x_iload_n (dtk dt_X11_act 22 (63, .iload_n 3, 1) rfl) rfl ?_
          refine x_aload_n (dtk dt_X11_act 23 (64, .aload_n 0, 1) rfl) rfl ?_
          refine fg_X11_34 rfl (dtk dt_X11_act 24 (65, .getfield 34, 3) rfl) (wk_0 hL.wf) (wm_0_5 (WF.fld 6 1 rfl hL.wf)) ?_
          by_cases hsp68_0 : M 37 o = 0
          · skip
            refine kc_X11_283_X4 rfl (dtk dt_X11_act 25 (68, .invokevirtual 283, 3) rfl) (c_X4_lookAct_0 (G := G) (p := M 1 o) (x := x) (by have z := hO2; rw [hsp68_0] at z; exact z) hl2) rfl rfl (hO.k.trans (by rw [hsp68_0]; rfl)) (fitR (by decide) (by decide)) (Nat.le_of_ble_eq_true rfl) (pqK ?_)
            refine kc_X11_111 rfl (dtk dt_X11_act 26 (71, .invokevirtual 111, 3) rfl) (c_X11_answer (G := G)  (WF.ad [10] (WF.fld 6 1 rfl hL.wf))) rfl rfl (wk_0 hL.wf) (fitR (by decide) (by decide)) (Nat.le_of_ble_eq_true rfl) (pqK ?_)
            exact r_i (dtk dt_X11_act 27 (74, .ireturn, 1) rfl) rfl (by have hc : (isOr M o && (decide (0 ≤ w) && decide (w ≤ 3))) = true := (by rw [hOi]; simp; omega); rw [if_pos hc]; rw [show w = 0 by omega]; first | (rw [hsp68_0]; rfl) | (rw [hsp68_1]; rfl) | (rw [hsp68_2]; rfl) | (rw [hsp68_3]; rfl) | (rw [hsp68_4]; rfl) | (rw [hk5]; rfl)) (by have hc : (isOr M o && (decide (0 ≤ w) && decide (w ≤ 3))) = true := (by rw [hOi]; simp; omega); rw [if_pos hc]; rw [show w = 0 by omega]; first | (rw [hsp68_0]; rfl) | (rw [hsp68_1]; rfl) | (rw [hsp68_2]; rfl) | (rw [hsp68_3]; rfl) | (rw [hsp68_4]; rfl) | (rw [hk5]; rfl))
          by_cases hsp68_1 : M 37 o = 1
          · skip
            refine kc_X11_283_X9 rfl (dtk dt_X11_act 25 (68, .invokevirtual 283, 3) rfl) (c_X9_lookAct_1 (G := G) (p := M 1 o) (x := x) (by have z := hO2; rw [hsp68_1] at z; exact z) hl2) rfl rfl (hO.k.trans (by rw [hsp68_1]; rfl)) (fitR (by decide) (by decide)) (Nat.le_of_ble_eq_true rfl) (pqK ?_)
            refine kc_X11_111 rfl (dtk dt_X11_act 26 (71, .invokevirtual 111, 3) rfl) (c_X11_answer (G := G)  (WF.ad [20, 10] (WF.fld 6 1 rfl hL.wf))) rfl rfl (wk_0 hL.wf) (fitR (by decide) (by decide)) (Nat.le_of_ble_eq_true rfl) (pqK ?_)
            exact r_i (dtk dt_X11_act 27 (74, .ireturn, 1) rfl) rfl (by have hc : (isOr M o && (decide (0 ≤ w) && decide (w ≤ 3))) = true := (by rw [hOi]; simp; omega); rw [if_pos hc]; rw [show w = 0 by omega]; first | (rw [hsp68_0]; rfl) | (rw [hsp68_1]; rfl) | (rw [hsp68_2]; rfl) | (rw [hsp68_3]; rfl) | (rw [hsp68_4]; rfl) | (rw [hk5]; rfl)) (by have hc : (isOr M o && (decide (0 ≤ w) && decide (w ≤ 3))) = true := (by rw [hOi]; simp; omega); rw [if_pos hc]; rw [show w = 0 by omega]; first | (rw [hsp68_0]; rfl) | (rw [hsp68_1]; rfl) | (rw [hsp68_2]; rfl) | (rw [hsp68_3]; rfl) | (rw [hsp68_4]; rfl) | (rw [hk5]; rfl))
          by_cases hsp68_2 : M 37 o = 2
          · skip
            refine kc_X11_283_X0 rfl (dtk dt_X11_act 25 (68, .invokevirtual 283, 3) rfl) (c_X9_lookAct_2 (G := G) (p := M 1 o) (x := x) (by have z := hO2; rw [hsp68_2] at z; exact z) hl2) rfl rfl (hO.k.trans (by rw [hsp68_2]; rfl)) (fitR (by decide) (by decide)) (Nat.le_of_ble_eq_true rfl) (pqK ?_)
            refine kc_X11_111 rfl (dtk dt_X11_act 26 (71, .invokevirtual 111, 3) rfl) (c_X11_answer (G := G)  (WF.ad [20, 10] (WF.fld 6 1 rfl hL.wf))) rfl rfl (wk_0 hL.wf) (fitR (by decide) (by decide)) (Nat.le_of_ble_eq_true rfl) (pqK ?_)
            exact r_i (dtk dt_X11_act 27 (74, .ireturn, 1) rfl) rfl (by have hc : (isOr M o && (decide (0 ≤ w) && decide (w ≤ 3))) = true := (by rw [hOi]; simp; omega); rw [if_pos hc]; rw [show w = 0 by omega]; first | (rw [hsp68_0]; rfl) | (rw [hsp68_1]; rfl) | (rw [hsp68_2]; rfl) | (rw [hsp68_3]; rfl) | (rw [hsp68_4]; rfl) | (rw [hk5]; rfl)) (by have hc : (isOr M o && (decide (0 ≤ w) && decide (w ≤ 3))) = true := (by rw [hOi]; simp; omega); rw [if_pos hc]; rw [show w = 0 by omega]; first | (rw [hsp68_0]; rfl) | (rw [hsp68_1]; rfl) | (rw [hsp68_2]; rfl) | (rw [hsp68_3]; rfl) | (rw [hsp68_4]; rfl) | (rw [hk5]; rfl))
          by_cases hsp68_3 : M 37 o = 3
          · skip
            refine kc_X11_283_X10 rfl (dtk dt_X11_act 25 (68, .invokevirtual 283, 3) rfl) (c_X9_lookAct_3 (G := G) (p := M 1 o) (x := x) (by have z := hO2; rw [hsp68_3] at z; exact z) hl2) rfl rfl (hO.k.trans (by rw [hsp68_3]; rfl)) (fitR (by decide) (by decide)) (Nat.le_of_ble_eq_true rfl) (pqK ?_)
            refine kc_X11_111 rfl (dtk dt_X11_act 26 (71, .invokevirtual 111, 3) rfl) (c_X11_answer (G := G)  (WF.ad [20, 10] (WF.fld 6 1 rfl hL.wf))) rfl rfl (wk_0 hL.wf) (fitR (by decide) (by decide)) (Nat.le_of_ble_eq_true rfl) (pqK ?_)
            exact r_i (dtk dt_X11_act 27 (74, .ireturn, 1) rfl) rfl (by have hc : (isOr M o && (decide (0 ≤ w) && decide (w ≤ 3))) = true := (by rw [hOi]; simp; omega); rw [if_pos hc]; rw [show w = 0 by omega]; first | (rw [hsp68_0]; rfl) | (rw [hsp68_1]; rfl) | (rw [hsp68_2]; rfl) | (rw [hsp68_3]; rfl) | (rw [hsp68_4]; rfl) | (rw [hk5]; rfl)) (by have hc : (isOr M o && (decide (0 ≤ w) && decide (w ≤ 3))) = true := (by rw [hOi]; simp; omega); rw [if_pos hc]; rw [show w = 0 by omega]; first | (rw [hsp68_0]; rfl) | (rw [hsp68_1]; rfl) | (rw [hsp68_2]; rfl) | (rw [hsp68_3]; rfl) | (rw [hsp68_4]; rfl) | (rw [hk5]; rfl))
          by_cases hsp68_4 : M 37 o = 4
          · skip
            refine kc_X11_283_X2 rfl (dtk dt_X11_act 25 (68, .invokevirtual 283, 3) rfl) (c_X2_lookAct_4 (G := G) (p := M 1 o) (x := x) (by have z := hO2; rw [hsp68_4] at z; exact z) hl2) rfl rfl (hO.k.trans (by rw [hsp68_4]; rfl)) (fitR (by decide) (by decide)) (Nat.le_of_ble_eq_true rfl) (pqK ?_)
            refine kc_X11_111 rfl (dtk dt_X11_act 26 (71, .invokevirtual 111, 3) rfl) (c_X11_answer (G := G)  (WF.ad [50, 10] (WF.fld 6 1 rfl hL.wf))) rfl rfl (wk_0 hL.wf) (fitR (by decide) (by decide)) (Nat.le_of_ble_eq_true rfl) (pqK ?_)
            exact r_i (dtk dt_X11_act 27 (74, .ireturn, 1) rfl) rfl (by have hc : (isOr M o && (decide (0 ≤ w) && decide (w ≤ 3))) = true := (by rw [hOi]; simp; omega); rw [if_pos hc]; rw [show w = 0 by omega]; first | (rw [hsp68_0]; rfl) | (rw [hsp68_1]; rfl) | (rw [hsp68_2]; rfl) | (rw [hsp68_3]; rfl) | (rw [hsp68_4]; rfl) | (rw [hk5]; rfl)) (by have hc : (isOr M o && (decide (0 ≤ w) && decide (w ≤ 3))) = true := (by rw [hOi]; simp; omega); rw [if_pos hc]; rw [show w = 0 by omega]; first | (rw [hsp68_0]; rfl) | (rw [hsp68_1]; rfl) | (rw [hsp68_2]; rfl) | (rw [hsp68_3]; rfl) | (rw [hsp68_4]; rfl) | (rw [hk5]; rfl))
          have hk5 : M 37 o = 5 := by omega
          refine kc_X11_283_X5 rfl (dtk dt_X11_act 25 (68, .invokevirtual 283, 3) rfl) (c_X5_lookAct_5 (G := G) (p := M 1 o) (x := x) (by have z := hO2; rw [hk5] at z; exact z) hl2) rfl rfl (hO.k.trans (by rw [hk5]; rfl)) (fitR (by decide) (by decide)) (Nat.le_of_ble_eq_true rfl) (pqK ?_)
          refine kc_X11_111 rfl (dtk dt_X11_act 26 (71, .invokevirtual 111, 3) rfl) (c_X11_answer (G := G)  (WF.ad [61, 20, 10] (WF.fld 6 1 rfl hL.wf))) rfl rfl (wk_0 hL.wf) (fitR (by decide) (by decide)) (Nat.le_of_ble_eq_true rfl) (pqK ?_)
          exact r_i (dtk dt_X11_act 27 (74, .ireturn, 1) rfl) rfl (by have hc : (isOr M o && (decide (0 ≤ w) && decide (w ≤ 3))) = true := (by rw [hOi]; simp; omega); rw [if_pos hc]; rw [show w = 0 by omega]; first | (rw [hsp68_0]; rfl) | (rw [hsp68_1]; rfl) | (rw [hsp68_2]; rfl) | (rw [hsp68_3]; rfl) | (rw [hsp68_4]; rfl) | (rw [hk5]; rfl)) (by have hc : (isOr M o && (decide (0 ≤ w) && decide (w ≤ 3))) = true := (by rw [hOi]; simp; omega); rw [if_pos hc]; rw [show w = 0 by omega]; first | (rw [hsp68_0]; rfl) | (rw [hsp68_1]; rfl) | (rw [hsp68_2]; rfl) | (rw [hsp68_3]; rfl) | (rw [hsp68_4]; rfl) | (rw [hk5]; rfl))
        by_cases s35_1 : w = 1
        · skip
          refine x_tsIn (tgt := 75) (off := 40) (dtk dt_X11_act 19 (35, .tableswitch 70 0 2 #[25, 40, 55], 25) rfl) (by omega) (by omega) (by rw [s35_1]; rfl) (by decide) ?_
          refine x_aload_n (dtk dt_X11_act 28 (75, .aload_n 0, 1) rfl) rfl ?_
          refine x_aload (dtk dt_X11_act 29 (76, .aload 4, 2) rfl) rfl ?_
          refine x_iload_n (dtk dt_X11_act 30 (78, .iload_n 3, 1) rfl) rfl ?_
          refine x_aload_n (dtk dt_X11_act 31 (79, .aload_n 0, 1) rfl) rfl ?_
          refine fg_X11_34 rfl (dtk dt_X11_act 32 (80, .getfield 34, 3) rfl) (wk_0 hL.wf) (wm_0_5 (WF.fld 6 1 rfl hL.wf)) ?_
          by_cases hsp83_0 : M 37 o = 0
          · skip
            refine kc_X11_287_X4 rfl (dtk dt_X11_act 33 (83, .invokevirtual 287, 3) rfl) (c_X4_partAct_0 (G := G) (p := M 1 o) (x := x) (by have z := hO2; rw [hsp83_0] at z; exact z) hl2) rfl rfl (hO.k.trans (by rw [hsp83_0]; rfl)) (fitR (by decide) (by decide)) (Nat.le_of_ble_eq_true rfl) (pqK ?_)
            refine kc_X11_111 rfl (dtk dt_X11_act 34 (86, .invokevirtual 111, 3) rfl) (c_X11_answer (G := G)  (WF.ad [11, 10] (WF.fld 6 1 rfl hL.wf))) rfl rfl (wk_0 hL.wf) (fitR (by decide) (by decide)) (Nat.le_of_ble_eq_true rfl) (pqK ?_)
            exact r_i (dtk dt_X11_act 35 (89, .ireturn, 1) rfl) rfl (by have hc : (isOr M o && (decide (0 ≤ w) && decide (w ≤ 3))) = true := (by rw [hOi]; simp; omega); rw [if_pos hc]; rw [show w = 1 by omega]; first | (rw [hsp83_0]; rfl) | (rw [hsp83_1]; rfl) | (rw [hsp83_2]; rfl) | (rw [hsp83_3]; rfl) | (rw [hsp83_4]; rfl) | (rw [hk5]; rfl)) (by have hc : (isOr M o && (decide (0 ≤ w) && decide (w ≤ 3))) = true := (by rw [hOi]; simp; omega); rw [if_pos hc]; rw [show w = 1 by omega]; first | (rw [hsp83_0]; rfl) | (rw [hsp83_1]; rfl) | (rw [hsp83_2]; rfl) | (rw [hsp83_3]; rfl) | (rw [hsp83_4]; rfl) | (rw [hk5]; rfl))
          by_cases hsp83_1 : M 37 o = 1
          · skip
            refine kc_X11_287_X9 rfl (dtk dt_X11_act 33 (83, .invokevirtual 287, 3) rfl) (c_X4_partAct_1 (G := G) (p := M 1 o) (x := x) (by have z := hO2; rw [hsp83_1] at z; exact z) hl2) rfl rfl (hO.k.trans (by rw [hsp83_1]; rfl)) (fitR (by decide) (by decide)) (Nat.le_of_ble_eq_true rfl) (pqK ?_)
            refine kc_X11_111 rfl (dtk dt_X11_act 34 (86, .invokevirtual 111, 3) rfl) (c_X11_answer (G := G)  (WF.ad [11, 20, 10] (WF.fld 6 1 rfl hL.wf))) rfl rfl (wk_0 hL.wf) (fitR (by decide) (by decide)) (Nat.le_of_ble_eq_true rfl) (pqK ?_)
            exact r_i (dtk dt_X11_act 35 (89, .ireturn, 1) rfl) rfl (by have hc : (isOr M o && (decide (0 ≤ w) && decide (w ≤ 3))) = true := (by rw [hOi]; simp; omega); rw [if_pos hc]; rw [show w = 1 by omega]; first | (rw [hsp83_0]; rfl) | (rw [hsp83_1]; rfl) | (rw [hsp83_2]; rfl) | (rw [hsp83_3]; rfl) | (rw [hsp83_4]; rfl) | (rw [hk5]; rfl)) (by have hc : (isOr M o && (decide (0 ≤ w) && decide (w ≤ 3))) = true := (by rw [hOi]; simp; omega); rw [if_pos hc]; rw [show w = 1 by omega]; first | (rw [hsp83_0]; rfl) | (rw [hsp83_1]; rfl) | (rw [hsp83_2]; rfl) | (rw [hsp83_3]; rfl) | (rw [hsp83_4]; rfl) | (rw [hk5]; rfl))
          by_cases hsp83_2 : M 37 o = 2
          · skip
            refine kc_X11_287_X0 rfl (dtk dt_X11_act 33 (83, .invokevirtual 287, 3) rfl) (c_X4_partAct_2 (G := G) (p := M 1 o) (x := x) (by have z := hO2; rw [hsp83_2] at z; exact z) hl2) rfl rfl (hO.k.trans (by rw [hsp83_2]; rfl)) (fitR (by decide) (by decide)) (Nat.le_of_ble_eq_true rfl) (pqK ?_)
            refine kc_X11_111 rfl (dtk dt_X11_act 34 (86, .invokevirtual 111, 3) rfl) (c_X11_answer (G := G)  (WF.ad [11, 20, 10] (WF.fld 6 1 rfl hL.wf))) rfl rfl (wk_0 hL.wf) (fitR (by decide) (by decide)) (Nat.le_of_ble_eq_true rfl) (pqK ?_)
            exact r_i (dtk dt_X11_act 35 (89, .ireturn, 1) rfl) rfl (by have hc : (isOr M o && (decide (0 ≤ w) && decide (w ≤ 3))) = true := (by rw [hOi]; simp; omega); rw [if_pos hc]; rw [show w = 1 by omega]; first | (rw [hsp83_0]; rfl) | (rw [hsp83_1]; rfl) | (rw [hsp83_2]; rfl) | (rw [hsp83_3]; rfl) | (rw [hsp83_4]; rfl) | (rw [hk5]; rfl)) (by have hc : (isOr M o && (decide (0 ≤ w) && decide (w ≤ 3))) = true := (by rw [hOi]; simp; omega); rw [if_pos hc]; rw [show w = 1 by omega]; first | (rw [hsp83_0]; rfl) | (rw [hsp83_1]; rfl) | (rw [hsp83_2]; rfl) | (rw [hsp83_3]; rfl) | (rw [hsp83_4]; rfl) | (rw [hk5]; rfl))
          by_cases hsp83_3 : M 37 o = 3
          · skip
            refine kc_X11_287_X10 rfl (dtk dt_X11_act 33 (83, .invokevirtual 287, 3) rfl) (c_X10_partAct_3 (G := G) (p := M 1 o) (x := x) (by have z := hO2; rw [hsp83_3] at z; exact z) hl2) rfl rfl (hO.k.trans (by rw [hsp83_3]; rfl)) (fitR (by decide) (by decide)) (Nat.le_of_ble_eq_true rfl) (pqK ?_)
            refine kc_X11_111 rfl (dtk dt_X11_act 34 (86, .invokevirtual 111, 3) rfl) (c_X11_answer (G := G)  (WF.ad [40, 11, 20, 10] (WF.fld 6 1 rfl hL.wf))) rfl rfl (wk_0 hL.wf) (fitR (by decide) (by decide)) (Nat.le_of_ble_eq_true rfl) (pqK ?_)
            exact r_i (dtk dt_X11_act 35 (89, .ireturn, 1) rfl) rfl (by have hc : (isOr M o && (decide (0 ≤ w) && decide (w ≤ 3))) = true := (by rw [hOi]; simp; omega); rw [if_pos hc]; rw [show w = 1 by omega]; first | (rw [hsp83_0]; rfl) | (rw [hsp83_1]; rfl) | (rw [hsp83_2]; rfl) | (rw [hsp83_3]; rfl) | (rw [hsp83_4]; rfl) | (rw [hk5]; rfl)) (by have hc : (isOr M o && (decide (0 ≤ w) && decide (w ≤ 3))) = true := (by rw [hOi]; simp; omega); rw [if_pos hc]; rw [show w = 1 by omega]; first | (rw [hsp83_0]; rfl) | (rw [hsp83_1]; rfl) | (rw [hsp83_2]; rfl) | (rw [hsp83_3]; rfl) | (rw [hsp83_4]; rfl) | (rw [hk5]; rfl))
          by_cases hsp83_4 : M 37 o = 4
          · skip
            refine kc_X11_287_X2 rfl (dtk dt_X11_act 33 (83, .invokevirtual 287, 3) rfl) (c_X4_partAct_4 (G := G) (p := M 1 o) (x := x) (by have z := hO2; rw [hsp83_4] at z; exact z) hl2) rfl rfl (hO.k.trans (by rw [hsp83_4]; rfl)) (fitR (by decide) (by decide)) (Nat.le_of_ble_eq_true rfl) (pqK ?_)
            refine kc_X11_111 rfl (dtk dt_X11_act 34 (86, .invokevirtual 111, 3) rfl) (c_X11_answer (G := G)  (WF.ad [11, 50, 10] (WF.fld 6 1 rfl hL.wf))) rfl rfl (wk_0 hL.wf) (fitR (by decide) (by decide)) (Nat.le_of_ble_eq_true rfl) (pqK ?_)
            exact r_i (dtk dt_X11_act 35 (89, .ireturn, 1) rfl) rfl (by have hc : (isOr M o && (decide (0 ≤ w) && decide (w ≤ 3))) = true := (by rw [hOi]; simp; omega); rw [if_pos hc]; rw [show w = 1 by omega]; first | (rw [hsp83_0]; rfl) | (rw [hsp83_1]; rfl) | (rw [hsp83_2]; rfl) | (rw [hsp83_3]; rfl) | (rw [hsp83_4]; rfl) | (rw [hk5]; rfl)) (by have hc : (isOr M o && (decide (0 ≤ w) && decide (w ≤ 3))) = true := (by rw [hOi]; simp; omega); rw [if_pos hc]; rw [show w = 1 by omega]; first | (rw [hsp83_0]; rfl) | (rw [hsp83_1]; rfl) | (rw [hsp83_2]; rfl) | (rw [hsp83_3]; rfl) | (rw [hsp83_4]; rfl) | (rw [hk5]; rfl))
          have hk5 : M 37 o = 5 := by omega
          refine kc_X11_287_X5 rfl (dtk dt_X11_act 33 (83, .invokevirtual 287, 3) rfl) (c_X5_partAct_5 (G := G) (p := M 1 o) (x := x) (by have z := hO2; rw [hk5] at z; exact z) hl2) rfl rfl (hO.k.trans (by rw [hk5]; rfl)) (fitR (by decide) (by decide)) (Nat.le_of_ble_eq_true rfl) (pqK ?_)
          refine kc_X11_111 rfl (dtk dt_X11_act 34 (86, .invokevirtual 111, 3) rfl) (c_X11_answer (G := G)  (WF.ad [60, 11, 61, 20, 10] (WF.fld 6 1 rfl hL.wf))) rfl rfl (wk_0 hL.wf) (fitR (by decide) (by decide)) (Nat.le_of_ble_eq_true rfl) (pqK ?_)
          exact r_i (dtk dt_X11_act 35 (89, .ireturn, 1) rfl) rfl (by have hc : (isOr M o && (decide (0 ≤ w) && decide (w ≤ 3))) = true := (by rw [hOi]; simp; omega); rw [if_pos hc]; rw [show w = 1 by omega]; first | (rw [hsp83_0]; rfl) | (rw [hsp83_1]; rfl) | (rw [hsp83_2]; rfl) | (rw [hsp83_3]; rfl) | (rw [hsp83_4]; rfl) | (rw [hk5]; rfl)) (by have hc : (isOr M o && (decide (0 ≤ w) && decide (w ≤ 3))) = true := (by rw [hOi]; simp; omega); rw [if_pos hc]; rw [show w = 1 by omega]; first | (rw [hsp83_0]; rfl) | (rw [hsp83_1]; rfl) | (rw [hsp83_2]; rfl) | (rw [hsp83_3]; rfl) | (rw [hsp83_4]; rfl) | (rw [hk5]; rfl))
        by_cases s35_2 : w = 2
        · skip
          refine x_tsIn (tgt := 90) (off := 55) (dtk dt_X11_act 19 (35, .tableswitch 70 0 2 #[25, 40, 55], 25) rfl) (by omega) (by omega) (by rw [s35_2]; rfl) (by decide) ?_
          refine x_aload_n (dtk dt_X11_act 36 (90, .aload_n 0, 1) rfl) rfl ?_
          refine x_aload (dtk dt_X11_act 37 (91, .aload 4, 2) rfl) rfl ?_
          refine x_iload_n (dtk dt_X11_act 38 (93, .iload_n 3, 1) rfl) rfl ?_
          refine x_aload_n (dtk dt_X11_act 39 (94, .aload_n 0, 1) rfl) rfl ?_
          refine fg_X11_34 rfl (dtk dt_X11_act 40 (95, .getfield 34, 3) rfl) (wk_0 hL.wf) (wm_0_5 (WF.fld 6 1 rfl hL.wf)) ?_
          by_cases hsp98_0 : M 37 o = 0
          · skip
            refine kc_X11_290_X4 rfl (dtk dt_X11_act 41 (98, .invokevirtual 290, 3) rfl) (c_X4_joinAct_0 (G := G) (p := M 1 o) (x := x) (by have z := hO2; rw [hsp98_0] at z; exact z) hl2) rfl rfl (hO.k.trans (by rw [hsp98_0]; rfl)) (fitR (by decide) (by decide)) (Nat.le_of_ble_eq_true rfl) (pqK ?_)
            refine kc_X11_111 rfl (dtk dt_X11_act 42 (101, .invokevirtual 111, 3) rfl) (c_X11_answer (G := G)  (WF.ad [12] (WF.fld 6 1 rfl hL.wf))) rfl rfl (wk_0 hL.wf) (fitR (by decide) (by decide)) (Nat.le_of_ble_eq_true rfl) (pqK ?_)
            exact r_i (dtk dt_X11_act 43 (104, .ireturn, 1) rfl) rfl (by have hc : (isOr M o && (decide (0 ≤ w) && decide (w ≤ 3))) = true := (by rw [hOi]; simp; omega); rw [if_pos hc]; rw [show w = 2 by omega]; first | (rw [hsp98_0]; rfl) | (rw [hsp98_1]; rfl) | (rw [hsp98_2]; rfl) | (rw [hsp98_3]; rfl) | (rw [hsp98_4]; rfl) | (rw [hk5]; rfl)) (by have hc : (isOr M o && (decide (0 ≤ w) && decide (w ≤ 3))) = true := (by rw [hOi]; simp; omega); rw [if_pos hc]; rw [show w = 2 by omega]; first | (rw [hsp98_0]; rfl) | (rw [hsp98_1]; rfl) | (rw [hsp98_2]; rfl) | (rw [hsp98_3]; rfl) | (rw [hsp98_4]; rfl) | (rw [hk5]; rfl))
          by_cases hsp98_1 : M 37 o = 1
          · skip
            refine kc_X11_290_X9 rfl (dtk dt_X11_act 41 (98, .invokevirtual 290, 3) rfl) (c_X4_joinAct_1 (G := G) (p := M 1 o) (x := x) (by have z := hO2; rw [hsp98_1] at z; exact z) hl2) rfl rfl (hO.k.trans (by rw [hsp98_1]; rfl)) (fitR (by decide) (by decide)) (Nat.le_of_ble_eq_true rfl) (pqK ?_)
            refine kc_X11_111 rfl (dtk dt_X11_act 42 (101, .invokevirtual 111, 3) rfl) (c_X11_answer (G := G)  (WF.ad [12] (WF.fld 6 1 rfl hL.wf))) rfl rfl (wk_0 hL.wf) (fitR (by decide) (by decide)) (Nat.le_of_ble_eq_true rfl) (pqK ?_)
            exact r_i (dtk dt_X11_act 43 (104, .ireturn, 1) rfl) rfl (by have hc : (isOr M o && (decide (0 ≤ w) && decide (w ≤ 3))) = true := (by rw [hOi]; simp; omega); rw [if_pos hc]; rw [show w = 2 by omega]; first | (rw [hsp98_0]; rfl) | (rw [hsp98_1]; rfl) | (rw [hsp98_2]; rfl) | (rw [hsp98_3]; rfl) | (rw [hsp98_4]; rfl) | (rw [hk5]; rfl)) (by have hc : (isOr M o && (decide (0 ≤ w) && decide (w ≤ 3))) = true := (by rw [hOi]; simp; omega); rw [if_pos hc]; rw [show w = 2 by omega]; first | (rw [hsp98_0]; rfl) | (rw [hsp98_1]; rfl) | (rw [hsp98_2]; rfl) | (rw [hsp98_3]; rfl) | (rw [hsp98_4]; rfl) | (rw [hk5]; rfl))
          by_cases hsp98_2 : M 37 o = 2
          · skip
            refine kc_X11_290_X0 rfl (dtk dt_X11_act 41 (98, .invokevirtual 290, 3) rfl) (c_X0_joinAct_2 (G := G) (p := M 1 o) (x := x) (by have z := hO2; rw [hsp98_2] at z; exact z) hl2) rfl rfl (hO.k.trans (by rw [hsp98_2]; rfl)) (fitR (by decide) (by decide)) (Nat.le_of_ble_eq_true rfl) (pqK ?_)
            refine kc_X11_111 rfl (dtk dt_X11_act 42 (101, .invokevirtual 111, 3) rfl) (c_X11_answer (G := G)  (WF.ad [30, 12] (WF.fld 6 1 rfl hL.wf))) rfl rfl (wk_0 hL.wf) (fitR (by decide) (by decide)) (Nat.le_of_ble_eq_true rfl) (pqK ?_)
            exact r_i (dtk dt_X11_act 43 (104, .ireturn, 1) rfl) rfl (by have hc : (isOr M o && (decide (0 ≤ w) && decide (w ≤ 3))) = true := (by rw [hOi]; simp; omega); rw [if_pos hc]; rw [show w = 2 by omega]; first | (rw [hsp98_0]; rfl) | (rw [hsp98_1]; rfl) | (rw [hsp98_2]; rfl) | (rw [hsp98_3]; rfl) | (rw [hsp98_4]; rfl) | (rw [hk5]; rfl)) (by have hc : (isOr M o && (decide (0 ≤ w) && decide (w ≤ 3))) = true := (by rw [hOi]; simp; omega); rw [if_pos hc]; rw [show w = 2 by omega]; first | (rw [hsp98_0]; rfl) | (rw [hsp98_1]; rfl) | (rw [hsp98_2]; rfl) | (rw [hsp98_3]; rfl) | (rw [hsp98_4]; rfl) | (rw [hk5]; rfl))
          by_cases hsp98_3 : M 37 o = 3
          · skip
            refine kc_X11_290_X10 rfl (dtk dt_X11_act 41 (98, .invokevirtual 290, 3) rfl) (c_X10_joinAct_3 (G := G) (p := M 1 o) (x := x) (by have z := hO2; rw [hsp98_3] at z; exact z) hl2) rfl rfl (hO.k.trans (by rw [hsp98_3]; rfl)) (fitR (by decide) (by decide)) (Nat.le_of_ble_eq_true rfl) (pqK ?_)
            refine kc_X11_111 rfl (dtk dt_X11_act 42 (101, .invokevirtual 111, 3) rfl) (c_X11_answer (G := G)  (WF.ad [41, 30, 12, 20, 10] (WF.fld 6 1 rfl hL.wf))) rfl rfl (wk_0 hL.wf) (fitR (by decide) (by decide)) (Nat.le_of_ble_eq_true rfl) (pqK ?_)
            exact r_i (dtk dt_X11_act 43 (104, .ireturn, 1) rfl) rfl (by have hc : (isOr M o && (decide (0 ≤ w) && decide (w ≤ 3))) = true := (by rw [hOi]; simp; omega); rw [if_pos hc]; rw [show w = 2 by omega]; first | (rw [hsp98_0]; rfl) | (rw [hsp98_1]; rfl) | (rw [hsp98_2]; rfl) | (rw [hsp98_3]; rfl) | (rw [hsp98_4]; rfl) | (rw [hk5]; rfl)) (by have hc : (isOr M o && (decide (0 ≤ w) && decide (w ≤ 3))) = true := (by rw [hOi]; simp; omega); rw [if_pos hc]; rw [show w = 2 by omega]; first | (rw [hsp98_0]; rfl) | (rw [hsp98_1]; rfl) | (rw [hsp98_2]; rfl) | (rw [hsp98_3]; rfl) | (rw [hsp98_4]; rfl) | (rw [hk5]; rfl))
          by_cases hsp98_4 : M 37 o = 4
          · skip
            refine kc_X11_290_X2 rfl (dtk dt_X11_act 41 (98, .invokevirtual 290, 3) rfl) (c_X4_joinAct_4 (G := G) (p := M 1 o) (x := x) (by have z := hO2; rw [hsp98_4] at z; exact z) hl2) rfl rfl (hO.k.trans (by rw [hsp98_4]; rfl)) (fitR (by decide) (by decide)) (Nat.le_of_ble_eq_true rfl) (pqK ?_)
            refine kc_X11_111 rfl (dtk dt_X11_act 42 (101, .invokevirtual 111, 3) rfl) (c_X11_answer (G := G)  (WF.ad [12] (WF.fld 6 1 rfl hL.wf))) rfl rfl (wk_0 hL.wf) (fitR (by decide) (by decide)) (Nat.le_of_ble_eq_true rfl) (pqK ?_)
            exact r_i (dtk dt_X11_act 43 (104, .ireturn, 1) rfl) rfl (by have hc : (isOr M o && (decide (0 ≤ w) && decide (w ≤ 3))) = true := (by rw [hOi]; simp; omega); rw [if_pos hc]; rw [show w = 2 by omega]; first | (rw [hsp98_0]; rfl) | (rw [hsp98_1]; rfl) | (rw [hsp98_2]; rfl) | (rw [hsp98_3]; rfl) | (rw [hsp98_4]; rfl) | (rw [hk5]; rfl)) (by have hc : (isOr M o && (decide (0 ≤ w) && decide (w ≤ 3))) = true := (by rw [hOi]; simp; omega); rw [if_pos hc]; rw [show w = 2 by omega]; first | (rw [hsp98_0]; rfl) | (rw [hsp98_1]; rfl) | (rw [hsp98_2]; rfl) | (rw [hsp98_3]; rfl) | (rw [hsp98_4]; rfl) | (rw [hk5]; rfl))
          have hk5 : M 37 o = 5 := by omega
          refine kc_X11_290_X5 rfl (dtk dt_X11_act 41 (98, .invokevirtual 290, 3) rfl) (c_X4_joinAct_5 (G := G) (p := M 1 o) (x := x) (by have z := hO2; rw [hk5] at z; exact z) hl2) rfl rfl (hO.k.trans (by rw [hk5]; rfl)) (fitR (by decide) (by decide)) (Nat.le_of_ble_eq_true rfl) (pqK ?_)
          refine kc_X11_111 rfl (dtk dt_X11_act 42 (101, .invokevirtual 111, 3) rfl) (c_X11_answer (G := G)  (WF.ad [12] (WF.fld 6 1 rfl hL.wf))) rfl rfl (wk_0 hL.wf) (fitR (by decide) (by decide)) (Nat.le_of_ble_eq_true rfl) (pqK ?_)
          exact r_i (dtk dt_X11_act 43 (104, .ireturn, 1) rfl) rfl (by have hc : (isOr M o && (decide (0 ≤ w) && decide (w ≤ 3))) = true := (by rw [hOi]; simp; omega); rw [if_pos hc]; rw [show w = 2 by omega]; first | (rw [hsp98_0]; rfl) | (rw [hsp98_1]; rfl) | (rw [hsp98_2]; rfl) | (rw [hsp98_3]; rfl) | (rw [hsp98_4]; rfl) | (rw [hk5]; rfl)) (by have hc : (isOr M o && (decide (0 ≤ w) && decide (w ≤ 3))) = true := (by rw [hOi]; simp; omega); rw [if_pos hc]; rw [show w = 2 by omega]; first | (rw [hsp98_0]; rfl) | (rw [hsp98_1]; rfl) | (rw [hsp98_2]; rfl) | (rw [hsp98_3]; rfl) | (rw [hsp98_4]; rfl) | (rw [hk5]; rfl))
        refine x_tsOut (tgt := 105) (dtk dt_X11_act 19 (35, .tableswitch 70 0 2 #[25, 40, 55], 25) rfl) (by omega) (by decide) ?_
        refine x_aload_n (dtk dt_X11_act 44 (105, .aload_n 0, 1) rfl) rfl ?_
        refine x_aload (dtk dt_X11_act 45 (106, .aload 4, 2) rfl) rfl ?_
        refine x_iload_n (dtk dt_X11_act 46 (108, .iload_n 3, 1) rfl) rfl ?_
        refine x_aload_n (dtk dt_X11_act 47 (109, .aload_n 0, 1) rfl) rfl ?_
        refine fg_X11_34 rfl (dtk dt_X11_act 48 (110, .getfield 34, 3) rfl) (wk_0 hL.wf) (wm_0_5 (WF.fld 6 1 rfl hL.wf)) ?_
        by_cases hsp113_0 : M 37 o = 0
        · skip
          refine kc_X11_293_X4 rfl (dtk dt_X11_act 49 (113, .invokevirtual 293, 3) rfl) (c_X4_tellAct_0 (G := G) (p := M 1 o) (x := x) (by have z := hO2; rw [hsp113_0] at z; exact z) hl2) rfl rfl (hO.k.trans (by rw [hsp113_0]; rfl)) (fitR (by decide) (by decide)) (Nat.le_of_ble_eq_true rfl) (pqK ?_)
          refine kc_X11_111 rfl (dtk dt_X11_act 50 (116, .invokevirtual 111, 3) rfl) (c_X11_answer (G := G)  (WF.ad [13, 11, 10, 12] (WF.fld 6 1 rfl hL.wf))) rfl rfl (wk_0 hL.wf) (fitR (by decide) (by decide)) (Nat.le_of_ble_eq_true rfl) (pqK ?_)
          exact r_i (dtk dt_X11_act 51 (119, .ireturn, 1) rfl) rfl (by have hc : (isOr M o && (decide (0 ≤ w) && decide (w ≤ 3))) = true := (by rw [hOi]; simp; omega); rw [if_pos hc]; rw [show w = 3 by omega]; first | (rw [hsp113_0]; rfl) | (rw [hsp113_1]; rfl) | (rw [hsp113_2]; rfl) | (rw [hsp113_3]; rfl) | (rw [hsp113_4]; rfl) | (rw [hk5]; rfl)) (by have hc : (isOr M o && (decide (0 ≤ w) && decide (w ≤ 3))) = true := (by rw [hOi]; simp; omega); rw [if_pos hc]; rw [show w = 3 by omega]; first | (rw [hsp113_0]; rfl) | (rw [hsp113_1]; rfl) | (rw [hsp113_2]; rfl) | (rw [hsp113_3]; rfl) | (rw [hsp113_4]; rfl) | (rw [hk5]; rfl))
        by_cases hsp113_1 : M 37 o = 1
        · skip
          refine kc_X11_293_X9 rfl (dtk dt_X11_act 49 (113, .invokevirtual 293, 3) rfl) (c_X9_tellAct_1 (G := G) (p := M 1 o) (x := x) (by have z := hO2; rw [hsp113_1] at z; exact z) hl2) rfl rfl (hO.k.trans (by rw [hsp113_1]; rfl)) (fitR (by decide) (by decide)) (Nat.le_of_ble_eq_true rfl) (pqK ?_)
          refine kc_X11_111 rfl (dtk dt_X11_act 50 (116, .invokevirtual 111, 3) rfl) (c_X11_answer (G := G)  (WF.ad [21, 13, 11, 20, 10, 12] (WF.fld 6 1 rfl hL.wf))) rfl rfl (wk_0 hL.wf) (fitR (by decide) (by decide)) (Nat.le_of_ble_eq_true rfl) (pqK ?_)
          exact r_i (dtk dt_X11_act 51 (119, .ireturn, 1) rfl) rfl (by have hc : (isOr M o && (decide (0 ≤ w) && decide (w ≤ 3))) = true := (by rw [hOi]; simp; omega); rw [if_pos hc]; rw [show w = 3 by omega]; first | (rw [hsp113_0]; rfl) | (rw [hsp113_1]; rfl) | (rw [hsp113_2]; rfl) | (rw [hsp113_3]; rfl) | (rw [hsp113_4]; rfl) | (rw [hk5]; rfl)) (by have hc : (isOr M o && (decide (0 ≤ w) && decide (w ≤ 3))) = true := (by rw [hOi]; simp; omega); rw [if_pos hc]; rw [show w = 3 by omega]; first | (rw [hsp113_0]; rfl) | (rw [hsp113_1]; rfl) | (rw [hsp113_2]; rfl) | (rw [hsp113_3]; rfl) | (rw [hsp113_4]; rfl) | (rw [hk5]; rfl))
        by_cases hsp113_2 : M 37 o = 2
        · skip
          refine kc_X11_293_X0 rfl (dtk dt_X11_act 49 (113, .invokevirtual 293, 3) rfl) (c_X9_tellAct_2 (G := G) (p := M 1 o) (x := x) (by have z := hO2; rw [hsp113_2] at z; exact z) hl2) rfl rfl (hO.k.trans (by rw [hsp113_2]; rfl)) (fitR (by decide) (by decide)) (Nat.le_of_ble_eq_true rfl) (pqK ?_)
          refine kc_X11_111 rfl (dtk dt_X11_act 50 (116, .invokevirtual 111, 3) rfl) (c_X11_answer (G := G)  (WF.ad [21, 13, 11, 20, 10, 30, 12] (WF.fld 6 1 rfl hL.wf))) rfl rfl (wk_0 hL.wf) (fitR (by decide) (by decide)) (Nat.le_of_ble_eq_true rfl) (pqK ?_)
          exact r_i (dtk dt_X11_act 51 (119, .ireturn, 1) rfl) rfl (by have hc : (isOr M o && (decide (0 ≤ w) && decide (w ≤ 3))) = true := (by rw [hOi]; simp; omega); rw [if_pos hc]; rw [show w = 3 by omega]; first | (rw [hsp113_0]; rfl) | (rw [hsp113_1]; rfl) | (rw [hsp113_2]; rfl) | (rw [hsp113_3]; rfl) | (rw [hsp113_4]; rfl) | (rw [hk5]; rfl)) (by have hc : (isOr M o && (decide (0 ≤ w) && decide (w ≤ 3))) = true := (by rw [hOi]; simp; omega); rw [if_pos hc]; rw [show w = 3 by omega]; first | (rw [hsp113_0]; rfl) | (rw [hsp113_1]; rfl) | (rw [hsp113_2]; rfl) | (rw [hsp113_3]; rfl) | (rw [hsp113_4]; rfl) | (rw [hk5]; rfl))
        by_cases hsp113_3 : M 37 o = 3
        · skip
          refine kc_X11_293_X10 rfl (dtk dt_X11_act 49 (113, .invokevirtual 293, 3) rfl) (c_X9_tellAct_3 (G := G) (p := M 1 o) (x := x) (by have z := hO2; rw [hsp113_3] at z; exact z) hl2) rfl rfl (hO.k.trans (by rw [hsp113_3]; rfl)) (fitR (by decide) (by decide)) (Nat.le_of_ble_eq_true rfl) (pqK ?_)
          refine kc_X11_111 rfl (dtk dt_X11_act 50 (116, .invokevirtual 111, 3) rfl) (c_X11_answer (G := G)  (WF.ad [21, 13, 40, 11, 20, 10, 41, 30, 12, 20, 10] (WF.fld 6 1 rfl hL.wf))) rfl rfl (wk_0 hL.wf) (fitR (by decide) (by decide)) (Nat.le_of_ble_eq_true rfl) (pqK ?_)
          exact r_i (dtk dt_X11_act 51 (119, .ireturn, 1) rfl) rfl (by have hc : (isOr M o && (decide (0 ≤ w) && decide (w ≤ 3))) = true := (by rw [hOi]; simp; omega); rw [if_pos hc]; rw [show w = 3 by omega]; first | (rw [hsp113_0]; rfl) | (rw [hsp113_1]; rfl) | (rw [hsp113_2]; rfl) | (rw [hsp113_3]; rfl) | (rw [hsp113_4]; rfl) | (rw [hk5]; rfl)) (by have hc : (isOr M o && (decide (0 ≤ w) && decide (w ≤ 3))) = true := (by rw [hOi]; simp; omega); rw [if_pos hc]; rw [show w = 3 by omega]; first | (rw [hsp113_0]; rfl) | (rw [hsp113_1]; rfl) | (rw [hsp113_2]; rfl) | (rw [hsp113_3]; rfl) | (rw [hsp113_4]; rfl) | (rw [hk5]; rfl))
        by_cases hsp113_4 : M 37 o = 4
        · skip
          refine kc_X11_293_X2 rfl (dtk dt_X11_act 49 (113, .invokevirtual 293, 3) rfl) (c_X2_tellAct_4 (G := G) (p := M 1 o) (x := x) (by have z := hO2; rw [hsp113_4] at z; exact z) hl2) rfl rfl (hO.k.trans (by rw [hsp113_4]; rfl)) (fitR (by decide) (by decide)) (Nat.le_of_ble_eq_true rfl) (pqK ?_)
          refine kc_X11_111 rfl (dtk dt_X11_act 50 (116, .invokevirtual 111, 3) rfl) (c_X11_answer (G := G)  (WF.ad [51, 12, 13, 11, 50, 10, 12] (WF.fld 6 1 rfl hL.wf))) rfl rfl (wk_0 hL.wf) (fitR (by decide) (by decide)) (Nat.le_of_ble_eq_true rfl) (pqK ?_)
          exact r_i (dtk dt_X11_act 51 (119, .ireturn, 1) rfl) rfl (by have hc : (isOr M o && (decide (0 ≤ w) && decide (w ≤ 3))) = true := (by rw [hOi]; simp; omega); rw [if_pos hc]; rw [show w = 3 by omega]; first | (rw [hsp113_0]; rfl) | (rw [hsp113_1]; rfl) | (rw [hsp113_2]; rfl) | (rw [hsp113_3]; rfl) | (rw [hsp113_4]; rfl) | (rw [hk5]; rfl)) (by have hc : (isOr M o && (decide (0 ≤ w) && decide (w ≤ 3))) = true := (by rw [hOi]; simp; omega); rw [if_pos hc]; rw [show w = 3 by omega]; first | (rw [hsp113_0]; rfl) | (rw [hsp113_1]; rfl) | (rw [hsp113_2]; rfl) | (rw [hsp113_3]; rfl) | (rw [hsp113_4]; rfl) | (rw [hk5]; rfl))
        have hk5 : M 37 o = 5 := by omega
        refine kc_X11_293_X5 rfl (dtk dt_X11_act 49 (113, .invokevirtual 293, 3) rfl) (c_X9_tellAct_5 (G := G) (p := M 1 o) (x := x) (by have z := hO2; rw [hk5] at z; exact z) hl2) rfl rfl (hO.k.trans (by rw [hk5]; rfl)) (fitR (by decide) (by decide)) (Nat.le_of_ble_eq_true rfl) (pqK ?_)
        refine kc_X11_111 rfl (dtk dt_X11_act 50 (116, .invokevirtual 111, 3) rfl) (c_X11_answer (G := G)  (WF.ad [21, 13, 60, 11, 61, 20, 10, 12] (WF.fld 6 1 rfl hL.wf))) rfl rfl (wk_0 hL.wf) (fitR (by decide) (by decide)) (Nat.le_of_ble_eq_true rfl) (pqK ?_)
        exact r_i (dtk dt_X11_act 51 (119, .ireturn, 1) rfl) rfl (by have hc : (isOr M o && (decide (0 ≤ w) && decide (w ≤ 3))) = true := (by rw [hOi]; simp; omega); rw [if_pos hc]; rw [show w = 3 by omega]; first | (rw [hsp113_0]; rfl) | (rw [hsp113_1]; rfl) | (rw [hsp113_2]; rfl) | (rw [hsp113_3]; rfl) | (rw [hsp113_4]; rfl) | (rw [hk5]; rfl)) (by have hc : (isOr M o && (decide (0 ≤ w) && decide (w ≤ 3))) = true := (by rw [hOi]; simp; omega); rw [if_pos hc]; rw [show w = 3 by omega]; first | (rw [hsp113_0]; rfl) | (rw [hsp113_1]; rfl) | (rw [hsp113_2]; rfl) | (rw [hsp113_3]; rfl) | (rw [hsp113_4]; rfl) | (rw [hk5]; rfl))
      · skip
        refine x_aload_n (dtk dt_X11_act 11 (21, .aload_n 0, 1) rfl) rfl ?_
        refine x_iconst (v := 1) ⟨by decide, by decide⟩ (dtk dt_X11_act 12 (22, .iconst 1, 1) rfl) ?_
        refine kc_X11_71 rfl (dtk dt_X11_act 13 (23, .invokevirtual 71, 3) rfl) (c_X11_refuse (G := G)  hL.wf) rfl rfl (wk_0 hL.wf) (fitR (by decide) (by decide)) (Nat.le_of_ble_eq_true rfl) (pqK ?_)
        exact r_i (dtk dt_X11_act 14 (26, .ireturn, 1) rfl) rfl (by rw [if_neg (show ¬ (isOr M o && (decide (0 ≤ w) && decide (w ≤ 3))) = true by (first | (rw [isOr_n hsp2_0]; simp; done) | (simp; omega)))]) (by rw [if_neg (show ¬ (isOr M o && (decide (0 ≤ w) && decide (w ≤ 3))) = true by (first | (rw [isOr_n hsp2_0]; simp; done) | (simp; omega)))])
  refine kc_X11_86 rfl (dtk dt_X11_act 2 (2, .invokevirtual 86, 3) rfl) (c_X11_find_no (G := G)  hL.wf (by rw [hL.cnt]; exact hsp2_0)) rfl rfl (wk_0 hL.wf) (fitR (by decide) (by decide)) (Nat.le_of_ble_eq_true rfl) (pqK ?_)
  have hOn := isOr_n hsp2_0
  refine x_astore (dtk dt_X11_act 3 (5, .astore 4, 2) rfl) (by decide) ?_
  refine x_aload (dtk dt_X11_act 4 (7, .aload 4, 2) rfl) rfl ?_
  refine x_ifnull (tgt := 21) (dtk dt_X11_act 5 (9, .ifnull 12, 3) rfl) (by decide) (fun c9 => ?_) (fun c9 => ?_)
  rotate_left
  · exact absurd c9 (by decide)
  refine x_aload_n (dtk dt_X11_act 11 (21, .aload_n 0, 1) rfl) rfl ?_
  refine x_iconst (v := 1) ⟨by decide, by decide⟩ (dtk dt_X11_act 12 (22, .iconst 1, 1) rfl) ?_
  refine kc_X11_71 rfl (dtk dt_X11_act 13 (23, .invokevirtual 71, 3) rfl) (c_X11_refuse (G := G)  hL.wf) rfl rfl (wk_0 hL.wf) (fitR (by decide) (by decide)) (Nat.le_of_ble_eq_true rfl) (pqK ?_)
  exact r_i (dtk dt_X11_act 14 (26, .ireturn, 1) rfl) rfl (by rw [if_neg (show ¬ (isOr M o && (decide (0 ≤ w) && decide (w ≤ 3))) = true by (first | (rw [isOr_n hsp2_0]; simp; done) | (simp; omega)))]) (by rw [if_neg (show ¬ (isOr M o && (decide (0 ≤ w) && decide (w ≤ 3))) = true by (first | (rw [isOr_n hsp2_0]; simp; done) | (simp; omega)))])
