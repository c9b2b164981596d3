/-! ===== the model: acts, hand ===== -/
set_option maxRecDepth 100000 in
set_option maxHeartbeats 4000000 in
theorem c_X12_join0 {G : GG} {n : Nat} {K : KK} {M : MM} {o x : Int} {m : Int} {d : Int → Int} (hA : AT K M o m d) (ht : 0 ≤ M 36 14 ∧ M 36 14 ≤ 45) : MC G mi_X12_join0 4 0 0 [(1, 36), (0, o), (0, x)] n K M (PQ (some (0, joinR (M 37 o) (prs m d) o x)) n K (rnL M (joinT (M 37 o)))) := by
  refine MC.intro (lc := [(0, (1, 36)), (1, (0, o)), (2, (0, x))]) (by decide) rfl (by simp [Nat.ble]) (Nat.le_of_ble_eq_true rfl) rfl (fun hMR => ?_)
  have ho := hA.2.1
  refine x_aload_n (dtk dt_X12_join0 0 (0, .aload_n 0, 1) rfl) rfl ?_
  refine fg_X12_7 rfl (dtk dt_X12_join0 1 (1, .getfield 7, 3) rfl) (wk_36 hA.wf) (wm_36_1 hA.wf) ?_
  refine x_iload_n (dtk dt_X12_join0 2 (4, .iload_n 1, 1) rfl) rfl ?_
  refine x_iald (dtk dt_X12_join0 3 (5, .iaload, 1) rfl) (wk_37 hA.wf) ⟨by omega, by omega⟩ ?_
  refine x_iconst (v := 3) ⟨by decide, by decide⟩ (dtk dt_X12_join0 4 (6, .iconst 3, 1) rfl) ?_
  refine x_icmp_ne (tgt := 16) (dtk dt_X12_join0 5 (7, .if_icmp .ne 9, 3) rfl) (by decide) (fun c7 => ?_) (fun c7 => ?_)
  · skip
    refine x_aload_n (dtk dt_X12_join0 9 (16, .aload_n 0, 1) rfl) rfl ?_
    refine fg_X12_7 rfl (dtk dt_X12_join0 10 (17, .getfield 7, 3) rfl) (wk_36 hA.wf) (by first | exact wm_36_1 (AT.wf (hA.rn [41])) | exact wm_36_1 (AT.wf (hA.rn []))) ?_
    refine x_iload_n (dtk dt_X12_join0 11 (20, .iload_n 1, 1) rfl) rfl ?_
    refine x_iald (dtk dt_X12_join0 12 (21, .iaload, 1) rfl) (wk_37 hA.wf) ⟨by omega, by omega⟩ ?_
    try simp only [ranM_x (show (37 : Int) ≠ 36 ∧ (37 : Int) ≠ 45 by decide), rnL_x (show (37 : Int) ≠ 36 ∧ (37 : Int) ≠ 45 by decide)]
    refine x_iconst (v := 2) ⟨by decide, by decide⟩ (dtk dt_X12_join0 13 (22, .iconst 2, 1) rfl) ?_
    refine x_icmp_eq (tgt := 36) (dtk dt_X12_join0 14 (23, .if_icmp .eq 13, 3) rfl) (by decide) (fun c23 => ?_) (fun c23 => ?_)
    · skip
      refine x_iconst (v := 1) ⟨by decide, by decide⟩ (dtk dt_X12_join0 21 (36, .iconst 1, 1) rfl) ?_
      refine x_goto (tgt := 41) (dtk dt_X12_join0 22 (37, .goto 4, 3) rfl) (by decide) ?_
      refine x_istore_n (dtk dt_X12_join0 24 (41, .istore_n 3, 1) rfl) (by decide) ?_
      refine x_iload_n (dtk dt_X12_join0 25 (42, .iload_n 3, 1) rfl) rfl ?_
      refine x_if_eq (tgt := 52) (dtk dt_X12_join0 26 (43, .ifCond .eq 9, 3) rfl) (by decide) (fun c43 => ?_) (fun c43 => ?_)
      · exact absurd c43 (by decide)
      refine x_aload_n (dtk dt_X12_join0 27 (46, .aload_n 0, 1) rfl) rfl ?_
      refine x_bipush (v := 30) ⟨by decide, by decide⟩ (dtk dt_X12_join0 28 (47, .bipush 30, 2) rfl) ?_
      refine kc_X12_263 rfl (dtk dt_X12_join0 29 (49, .invokevirtual 263, 3) rfl) (c_X12_ran (G := G)  (by first | exact id (AT.wf (hA.rn [41])) | exact id (AT.wf (hA.rn []))) (by first | (show 0 ≤ rnL M [41] 36 14 ∧ rnL M [41] 36 14 < 60; rw [rnL_14]; simp; omega) | (show 0 ≤ rnL M [] 36 14 ∧ rnL M [] 36 14 < 60; rw [rnL_14]; simp; omega))) rfl rfl (wk_36 hA.wf) (fitR (by decide) (by decide)) (Nat.le_of_ble_eq_true rfl) (pqK ?_)
      refine x_aload_n (dtk dt_X12_join0 30 (52, .aload_n 0, 1) rfl) rfl ?_
      refine x_bipush (v := 12) ⟨by decide, by decide⟩ (dtk dt_X12_join0 31 (53, .bipush 12, 2) rfl) ?_
      refine kc_X12_263 rfl (dtk dt_X12_join0 32 (55, .invokevirtual 263, 3) rfl) (c_X12_ran (G := G)  (by first | exact id (AT.wf (hA.rn [41, 30])) | exact id (AT.wf (hA.rn [30])) | exact id (AT.wf (hA.rn [41])) | exact id (AT.wf (hA.rn []))) (by first | (show 0 ≤ rnL M [41, 30] 36 14 ∧ rnL M [41, 30] 36 14 < 60; rw [rnL_14]; simp; omega) | (show 0 ≤ rnL M [30] 36 14 ∧ rnL M [30] 36 14 < 60; rw [rnL_14]; simp; omega) | (show 0 ≤ rnL M [41] 36 14 ∧ rnL M [41] 36 14 < 60; rw [rnL_14]; simp; omega) | (show 0 ≤ rnL M [] 36 14 ∧ rnL M [] 36 14 < 60; rw [rnL_14]; simp; omega))) rfl rfl (wk_36 hA.wf) (fitR (by decide) (by decide)) (Nat.le_of_ble_eq_true rfl) (pqK ?_)
      refine x_iload_n (dtk dt_X12_join0 33 (58, .iload_n 3, 1) rfl) rfl ?_
      refine x_if_eq (tgt := 70) (dtk dt_X12_join0 34 (59, .ifCond .eq 11, 3) rfl) (by decide) (fun c59 => ?_) (fun c59 => ?_)
      · exact absurd c59 (by decide)
      refine x_iload_n (dtk dt_X12_join0 35 (62, .iload_n 2, 1) rfl) rfl ?_
      refine x_iload_n (dtk dt_X12_join0 36 (63, .iload_n 1, 1) rfl) rfl ?_
      refine w_isub (dtk dt_X12_join0 37 (64, .isub, 1) rfl) ?_
      refine x_iconst (v := 3) ⟨by decide, by decide⟩ (dtk dt_X12_join0 38 (65, .iconst 3, 1) rfl) ?_
      refine w_imul (dtk dt_X12_join0 39 (66, .imul, 1) rfl) ?_
      refine x_goto (tgt := 73) (dtk dt_X12_join0 40 (67, .goto 6, 3) rfl) (by decide) ?_
      refine x_istore (dtk dt_X12_join0 44 (73, .istore 4, 2) rfl) (by decide) ?_
      refine x_aload_n (dtk dt_X12_join0 45 (75, .aload_n 0, 1) rfl) rfl ?_
      refine fg_X12_7 rfl (dtk dt_X12_join0 46 (76, .getfield 7, 3) rfl) (wk_36 hA.wf) (by first | exact wm_36_1 (AT.wf (hA.rn [41, 30, 12])) | exact wm_36_1 (AT.wf (hA.rn [30, 12])) | exact wm_36_1 (AT.wf (hA.rn [41, 12])) | exact wm_36_1 (AT.wf (hA.rn [12]))) ?_
      refine x_iload_n (dtk dt_X12_join0 47 (79, .iload_n 1, 1) rfl) rfl ?_
      refine x_iald (dtk dt_X12_join0 48 (80, .iaload, 1) rfl) (wk_37 hA.wf) ⟨by omega, by omega⟩ ?_
      try simp only [ranM_x (show (37 : Int) ≠ 36 ∧ (37 : Int) ≠ 45 by decide), rnL_x (show (37 : Int) ≠ 36 ∧ (37 : Int) ≠ 45 by decide)]
      refine x_iconst (v := 3) ⟨by decide, by decide⟩ (dtk dt_X12_join0 49 (81, .iconst 3, 1) rfl) ?_
      refine x_icmp_ne (tgt := 97) (dtk dt_X12_join0 50 (82, .if_icmp .ne 15, 3) rfl) (by decide) (fun c82 => ?_) (fun c82 => ?_)
      · skip
        refine x_iload (dtk dt_X12_join0 58 (97, .iload 4, 2) rfl) rfl ?_
        exact r_i (dtk dt_X12_join0 59 (99, .ireturn, 1) rfl) rfl (by unfold joinR; simp_all) (by unfold joinT; simp_all [← rnL_app] <;> rfl)
      · skip
        refine x_iload (dtk dt_X12_join0 51 (85, .iload 4, 2) rfl) rfl ?_
        refine x_aload_n (dtk dt_X12_join0 52 (87, .aload_n 0, 1) rfl) rfl ?_
        refine x_iload_n (dtk dt_X12_join0 53 (88, .iload_n 1, 1) rfl) rfl ?_
        refine x_iload_n (dtk dt_X12_join0 54 (89, .iload_n 2, 1) rfl) rfl ?_
        refine kc_X12_266 rfl (dtk dt_X12_join0 55 (90, .invokevirtual 266, 3) rfl) (c_X12_stackLook (G := G)  (by first | exact hA.rn [41, 30, 12] | exact hA.rn [30, 12] | exact hA.rn [41, 12] | exact hA.rn [12]) (by first | (show 0 ≤ rnL M [41, 30, 12] 36 14 ∧ rnL M [41, 30, 12] 36 14 ≤ 55; rw [rnL_14]; simp; omega) | (show 0 ≤ rnL M [30, 12] 36 14 ∧ rnL M [30, 12] 36 14 ≤ 55; rw [rnL_14]; simp; omega) | (show 0 ≤ rnL M [41, 12] 36 14 ∧ rnL M [41, 12] 36 14 ≤ 55; rw [rnL_14]; simp; omega) | (show 0 ≤ rnL M [12] 36 14 ∧ rnL M [12] 36 14 ≤ 55; rw [rnL_14]; simp; omega))) rfl rfl (wk_36 hA.wf) (fitR (by decide) (by decide)) (Nat.le_of_ble_eq_true rfl) (pqK ?_)
        refine w_iadd (dtk dt_X12_join0 56 (93, .iadd, 1) rfl) ?_
        refine x_goto (tgt := 99) (dtk dt_X12_join0 57 (94, .goto 5, 3) rfl) (by decide) ?_
        exact r_i (dtk dt_X12_join0 59 (99, .ireturn, 1) rfl) rfl (by unfold joinR; simp_all) (by unfold joinT; simp_all [← rnL_app] <;> rfl)
    · skip
      refine x_aload_n (dtk dt_X12_join0 15 (26, .aload_n 0, 1) rfl) rfl ?_
      refine fg_X12_7 rfl (dtk dt_X12_join0 16 (27, .getfield 7, 3) rfl) (wk_36 hA.wf) (by first | exact wm_36_1 (AT.wf (hA.rn [41])) | exact wm_36_1 (AT.wf (hA.rn []))) ?_
      refine x_iload_n (dtk dt_X12_join0 17 (30, .iload_n 1, 1) rfl) rfl ?_
      refine x_iald (dtk dt_X12_join0 18 (31, .iaload, 1) rfl) (wk_37 hA.wf) ⟨by omega, by omega⟩ ?_
      try simp only [ranM_x (show (37 : Int) ≠ 36 ∧ (37 : Int) ≠ 45 by decide), rnL_x (show (37 : Int) ≠ 36 ∧ (37 : Int) ≠ 45 by decide)]
      refine x_iconst (v := 3) ⟨by decide, by decide⟩ (dtk dt_X12_join0 19 (32, .iconst 3, 1) rfl) ?_
      refine x_icmp_ne (tgt := 40) (dtk dt_X12_join0 20 (33, .if_icmp .ne 7, 3) rfl) (by decide) (fun c33 => ?_) (fun c33 => ?_)
      · skip
        refine x_iconst (v := 0) ⟨by decide, by decide⟩ (dtk dt_X12_join0 23 (40, .iconst 0, 1) rfl) ?_
        refine x_istore_n (dtk dt_X12_join0 24 (41, .istore_n 3, 1) rfl) (by decide) ?_
        refine x_iload_n (dtk dt_X12_join0 25 (42, .iload_n 3, 1) rfl) rfl ?_
        refine x_if_eq (tgt := 52) (dtk dt_X12_join0 26 (43, .ifCond .eq 9, 3) rfl) (by decide) (fun c43 => ?_) (fun c43 => ?_)
        rotate_left
        · exact absurd (by decide) c43
        refine x_aload_n (dtk dt_X12_join0 30 (52, .aload_n 0, 1) rfl) rfl ?_
        refine x_bipush (v := 12) ⟨by decide, by decide⟩ (dtk dt_X12_join0 31 (53, .bipush 12, 2) rfl) ?_
        refine kc_X12_263 rfl (dtk dt_X12_join0 32 (55, .invokevirtual 263, 3) rfl) (c_X12_ran (G := G)  (by first | exact id (AT.wf (hA.rn [41, 30])) | exact id (AT.wf (hA.rn [30])) | exact id (AT.wf (hA.rn [41])) | exact id (AT.wf (hA.rn []))) (by first | (show 0 ≤ rnL M [41, 30] 36 14 ∧ rnL M [41, 30] 36 14 < 60; rw [rnL_14]; simp; omega) | (show 0 ≤ rnL M [30] 36 14 ∧ rnL M [30] 36 14 < 60; rw [rnL_14]; simp; omega) | (show 0 ≤ rnL M [41] 36 14 ∧ rnL M [41] 36 14 < 60; rw [rnL_14]; simp; omega) | (show 0 ≤ rnL M [] 36 14 ∧ rnL M [] 36 14 < 60; rw [rnL_14]; simp; omega))) rfl rfl (wk_36 hA.wf) (fitR (by decide) (by decide)) (Nat.le_of_ble_eq_true rfl) (pqK ?_)
        refine x_iload_n (dtk dt_X12_join0 33 (58, .iload_n 3, 1) rfl) rfl ?_
        refine x_if_eq (tgt := 70) (dtk dt_X12_join0 34 (59, .ifCond .eq 11, 3) rfl) (by decide) (fun c59 => ?_) (fun c59 => ?_)
        rotate_left
        · exact absurd (by decide) c59
        refine x_iload_n (dtk dt_X12_join0 41 (70, .iload_n 2, 1) rfl) rfl ?_
        refine x_iload_n (dtk dt_X12_join0 42 (71, .iload_n 1, 1) rfl) rfl ?_
        refine w_isub (dtk dt_X12_join0 43 (72, .isub, 1) rfl) ?_
        refine x_istore (dtk dt_X12_join0 44 (73, .istore 4, 2) rfl) (by decide) ?_
        refine x_aload_n (dtk dt_X12_join0 45 (75, .aload_n 0, 1) rfl) rfl ?_
        refine fg_X12_7 rfl (dtk dt_X12_join0 46 (76, .getfield 7, 3) rfl) (wk_36 hA.wf) (by first | exact wm_36_1 (AT.wf (hA.rn [41, 30, 12])) | exact wm_36_1 (AT.wf (hA.rn [30, 12])) | exact wm_36_1 (AT.wf (hA.rn [41, 12])) | exact wm_36_1 (AT.wf (hA.rn [12]))) ?_
        refine x_iload_n (dtk dt_X12_join0 47 (79, .iload_n 1, 1) rfl) rfl ?_
        refine x_iald (dtk dt_X12_join0 48 (80, .iaload, 1) rfl) (wk_37 hA.wf) ⟨by omega, by omega⟩ ?_
        try simp only [ranM_x (show (37 : Int) ≠ 36 ∧ (37 : Int) ≠ 45 by decide), rnL_x (show (37 : Int) ≠ 36 ∧ (37 : Int) ≠ 45 by decide)]
        refine x_iconst (v := 3) ⟨by decide, by decide⟩ (dtk dt_X12_join0 49 (81, .iconst 3, 1) rfl) ?_
        refine x_icmp_ne (tgt := 97) (dtk dt_X12_join0 50 (82, .if_icmp .ne 15, 3) rfl) (by decide) (fun c82 => ?_) (fun c82 => ?_)
        · skip
          refine x_iload (dtk dt_X12_join0 58 (97, .iload 4, 2) rfl) rfl ?_
          exact r_i (dtk dt_X12_join0 59 (99, .ireturn, 1) rfl) rfl (by unfold joinR; simp_all) (by unfold joinT; simp_all [← rnL_app] <;> rfl)
        · skip
          refine x_iload (dtk dt_X12_join0 51 (85, .iload 4, 2) rfl) rfl ?_
          refine x_aload_n (dtk dt_X12_join0 52 (87, .aload_n 0, 1) rfl) rfl ?_
          refine x_iload_n (dtk dt_X12_join0 53 (88, .iload_n 1, 1) rfl) rfl ?_
          refine x_iload_n (dtk dt_X12_join0 54 (89, .iload_n 2, 1) rfl) rfl ?_
          refine kc_X12_266 rfl (dtk dt_X12_join0 55 (90, .invokevirtual 266, 3) rfl) (c_X12_stackLook (G := G)  (by first | exact hA.rn [41, 30, 12] | exact hA.rn [30, 12] | exact hA.rn [41, 12] | exact hA.rn [12]) (by first | (show 0 ≤ rnL M [41, 30, 12] 36 14 ∧ rnL M [41, 30, 12] 36 14 ≤ 55; rw [rnL_14]; simp; omega) | (show 0 ≤ rnL M [30, 12] 36 14 ∧ rnL M [30, 12] 36 14 ≤ 55; rw [rnL_14]; simp; omega) | (show 0 ≤ rnL M [41, 12] 36 14 ∧ rnL M [41, 12] 36 14 ≤ 55; rw [rnL_14]; simp; omega) | (show 0 ≤ rnL M [12] 36 14 ∧ rnL M [12] 36 14 ≤ 55; rw [rnL_14]; simp; omega))) rfl rfl (wk_36 hA.wf) (fitR (by decide) (by decide)) (Nat.le_of_ble_eq_true rfl) (pqK ?_)
          refine w_iadd (dtk dt_X12_join0 56 (93, .iadd, 1) rfl) ?_
          refine x_goto (tgt := 99) (dtk dt_X12_join0 57 (94, .goto 5, 3) rfl) (by decide) ?_
          exact r_i (dtk dt_X12_join0 59 (99, .ireturn, 1) rfl) rfl (by unfold joinR; simp_all) (by unfold joinT; simp_all [← rnL_app] <;> rfl)
      · skip
        refine x_iconst (v := 1) ⟨by decide, by decide⟩ (dtk dt_X12_join0 21 (36, .iconst 1, 1) rfl) ?_
        refine x_goto (tgt := 41) (dtk dt_X12_join0 22 (37, .goto 4, 3) rfl) (by decide) ?_
        refine x_istore_n (dtk dt_X12_join0 24 (41, .istore_n 3, 1) rfl) (by decide) ?_
        refine x_iload_n (dtk dt_X12_join0 25 (42, .iload_n 3, 1) rfl) rfl ?_
        refine x_if_eq (tgt := 52) (dtk dt_X12_join0 26 (43, .ifCond .eq 9, 3) rfl) (by decide) (fun c43 => ?_) (fun c43 => ?_)
        · exact absurd c43 (by decide)
        refine x_aload_n (dtk dt_X12_join0 27 (46, .aload_n 0, 1) rfl) rfl ?_
        refine x_bipush (v := 30) ⟨by decide, by decide⟩ (dtk dt_X12_join0 28 (47, .bipush 30, 2) rfl) ?_
        refine kc_X12_263 rfl (dtk dt_X12_join0 29 (49, .invokevirtual 263, 3) rfl) (c_X12_ran (G := G)  (by first | exact id (AT.wf (hA.rn [41])) | exact id (AT.wf (hA.rn []))) (by first | (show 0 ≤ rnL M [41] 36 14 ∧ rnL M [41] 36 14 < 60; rw [rnL_14]; simp; omega) | (show 0 ≤ rnL M [] 36 14 ∧ rnL M [] 36 14 < 60; rw [rnL_14]; simp; omega))) rfl rfl (wk_36 hA.wf) (fitR (by decide) (by decide)) (Nat.le_of_ble_eq_true rfl) (pqK ?_)
        refine x_aload_n (dtk dt_X12_join0 30 (52, .aload_n 0, 1) rfl) rfl ?_
        refine x_bipush (v := 12) ⟨by decide, by decide⟩ (dtk dt_X12_join0 31 (53, .bipush 12, 2) rfl) ?_
        refine kc_X12_263 rfl (dtk dt_X12_join0 32 (55, .invokevirtual 263, 3) rfl) (c_X12_ran (G := G)  (by first | exact id (AT.wf (hA.rn [41, 30])) | exact id (AT.wf (hA.rn [30])) | exact id (AT.wf (hA.rn [41])) | exact id (AT.wf (hA.rn []))) (by first | (show 0 ≤ rnL M [41, 30] 36 14 ∧ rnL M [41, 30] 36 14 < 60; rw [rnL_14]; simp; omega) | (show 0 ≤ rnL M [30] 36 14 ∧ rnL M [30] 36 14 < 60; rw [rnL_14]; simp; omega) | (show 0 ≤ rnL M [41] 36 14 ∧ rnL M [41] 36 14 < 60; rw [rnL_14]; simp; omega) | (show 0 ≤ rnL M [] 36 14 ∧ rnL M [] 36 14 < 60; rw [rnL_14]; simp; omega))) rfl rfl (wk_36 hA.wf) (fitR (by decide) (by decide)) (Nat.le_of_ble_eq_true rfl) (pqK ?_)
        refine x_iload_n (dtk dt_X12_join0 33 (58, .iload_n 3, 1) rfl) rfl ?_
        refine x_if_eq (tgt := 70) (dtk dt_X12_join0 34 (59, .ifCond .eq 11, 3) rfl) (by decide) (fun c59 => ?_) (fun c59 => ?_)
        · exact absurd c59 (by decide)
        refine x_iload_n (dtk dt_X12_join0 35 (62, .iload_n 2, 1) rfl) rfl ?_
        refine x_iload_n (dtk dt_X12_join0 36 (63, .iload_n 1, 1) rfl) rfl ?_
        refine w_isub (dtk dt_X12_join0 37 (64, .isub, 1) rfl) ?_
        refine x_iconst (v := 3) ⟨by decide, by decide⟩ (dtk dt_X12_join0 38 (65, .iconst 3, 1) rfl) ?_
        refine w_imul (dtk dt_X12_join0 39 (66, .imul, 1) rfl) ?_
        refine x_goto (tgt := 73) (dtk dt_X12_join0 40 (67, .goto 6, 3) rfl) (by decide) ?_
        refine x_istore (dtk dt_X12_join0 44 (73, .istore 4, 2) rfl) (by decide) ?_
        refine x_aload_n (dtk dt_X12_join0 45 (75, .aload_n 0, 1) rfl) rfl ?_
        refine fg_X12_7 rfl (dtk dt_X12_join0 46 (76, .getfield 7, 3) rfl) (wk_36 hA.wf) (by first | exact wm_36_1 (AT.wf (hA.rn [41, 30, 12])) | exact wm_36_1 (AT.wf (hA.rn [30, 12])) | exact wm_36_1 (AT.wf (hA.rn [41, 12])) | exact wm_36_1 (AT.wf (hA.rn [12]))) ?_
        refine x_iload_n (dtk dt_X12_join0 47 (79, .iload_n 1, 1) rfl) rfl ?_
        refine x_iald (dtk dt_X12_join0 48 (80, .iaload, 1) rfl) (wk_37 hA.wf) ⟨by omega, by omega⟩ ?_
        try simp only [ranM_x (show (37 : Int) ≠ 36 ∧ (37 : Int) ≠ 45 by decide), rnL_x (show (37 : Int) ≠ 36 ∧ (37 : Int) ≠ 45 by decide)]
        refine x_iconst (v := 3) ⟨by decide, by decide⟩ (dtk dt_X12_join0 49 (81, .iconst 3, 1) rfl) ?_
        refine x_icmp_ne (tgt := 97) (dtk dt_X12_join0 50 (82, .if_icmp .ne 15, 3) rfl) (by decide) (fun c82 => ?_) (fun c82 => ?_)
        · skip
          refine x_iload (dtk dt_X12_join0 58 (97, .iload 4, 2) rfl) rfl ?_
          exact r_i (dtk dt_X12_join0 59 (99, .ireturn, 1) rfl) rfl (by unfold joinR; simp_all) (by unfold joinT; simp_all [← rnL_app] <;> rfl)
        · skip
          refine x_iload (dtk dt_X12_join0 51 (85, .iload 4, 2) rfl) rfl ?_
          refine x_aload_n (dtk dt_X12_join0 52 (87, .aload_n 0, 1) rfl) rfl ?_
          refine x_iload_n (dtk dt_X12_join0 53 (88, .iload_n 1, 1) rfl) rfl ?_
          refine x_iload_n (dtk dt_X12_join0 54 (89, .iload_n 2, 1) rfl) rfl ?_
          refine kc_X12_266 rfl (dtk dt_X12_join0 55 (90, .invokevirtual 266, 3) rfl) (c_X12_stackLook (G := G)  (by first | exact hA.rn [41, 30, 12] | exact hA.rn [30, 12] | exact hA.rn [41, 12] | exact hA.rn [12]) (by first | (show 0 ≤ rnL M [41, 30, 12] 36 14 ∧ rnL M [41, 30, 12] 36 14 ≤ 55; rw [rnL_14]; simp; omega) | (show 0 ≤ rnL M [30, 12] 36 14 ∧ rnL M [30, 12] 36 14 ≤ 55; rw [rnL_14]; simp; omega) | (show 0 ≤ rnL M [41, 12] 36 14 ∧ rnL M [41, 12] 36 14 ≤ 55; rw [rnL_14]; simp; omega) | (show 0 ≤ rnL M [12] 36 14 ∧ rnL M [12] 36 14 ≤ 55; rw [rnL_14]; simp; omega))) rfl rfl (wk_36 hA.wf) (fitR (by decide) (by decide)) (Nat.le_of_ble_eq_true rfl) (pqK ?_)
          refine w_iadd (dtk dt_X12_join0 56 (93, .iadd, 1) rfl) ?_
          refine x_goto (tgt := 99) (dtk dt_X12_join0 57 (94, .goto 5, 3) rfl) (by decide) ?_
          exact r_i (dtk dt_X12_join0 59 (99, .ireturn, 1) rfl) rfl (by unfold joinR; simp_all) (by unfold joinT; simp_all [← rnL_app] <;> rfl)
  · skip
    refine x_aload_n (dtk dt_X12_join0 6 (10, .aload_n 0, 1) rfl) rfl ?_
    refine x_bipush (v := 41) ⟨by decide, by decide⟩ (dtk dt_X12_join0 7 (11, .bipush 41, 2) rfl) ?_
    refine kc_X12_263 rfl (dtk dt_X12_join0 8 (13, .invokevirtual 263, 3) rfl) (c_X12_ran (G := G)  (WF.rn hA.wf []) (by have hq := rnL_14 [] M; simp only [List.length_cons, List.length_nil, List.length_append] at hq; show 0 ≤ rnL M [] 36 14 ∧ rnL M [] 36 14 < 60; omega)) rfl rfl (wk_36 hA.wf) (fitR (by decide) (by decide)) (Nat.le_of_ble_eq_true rfl) (pqK ?_)
    refine x_aload_n (dtk dt_X12_join0 9 (16, .aload_n 0, 1) rfl) rfl ?_
    refine fg_X12_7 rfl (dtk dt_X12_join0 10 (17, .getfield 7, 3) rfl) (wk_36 hA.wf) (by first | exact wm_36_1 (AT.wf (hA.rn [41])) | exact wm_36_1 (AT.wf (hA.rn []))) ?_
    refine x_iload_n (dtk dt_X12_join0 11 (20, .iload_n 1, 1) rfl) rfl ?_
    refine x_iald (dtk dt_X12_join0 12 (21, .iaload, 1) rfl) (wk_37 hA.wf) ⟨by omega, by omega⟩ ?_
    try simp only [ranM_x (show (37 : Int) ≠ 36 ∧ (37 : Int) ≠ 45 by decide), rnL_x (show (37 : Int) ≠ 36 ∧ (37 : Int) ≠ 45 by decide)]
    refine x_iconst (v := 2) ⟨by decide, by decide⟩ (dtk dt_X12_join0 13 (22, .iconst 2, 1) rfl) ?_
    refine x_icmp_eq (tgt := 36) (dtk dt_X12_join0 14 (23, .if_icmp .eq 13, 3) rfl) (by decide) (fun c23 => ?_) (fun c23 => ?_)
    · skip
      refine x_iconst (v := 1) ⟨by decide, by decide⟩ (dtk dt_X12_join0 21 (36, .iconst 1, 1) rfl) ?_
      refine x_goto (tgt := 41) (dtk dt_X12_join0 22 (37, .goto 4, 3) rfl) (by decide) ?_
      refine x_istore_n (dtk dt_X12_join0 24 (41, .istore_n 3, 1) rfl) (by decide) ?_
      refine x_iload_n (dtk dt_X12_join0 25 (42, .iload_n 3, 1) rfl) rfl ?_
      refine x_if_eq (tgt := 52) (dtk dt_X12_join0 26 (43, .ifCond .eq 9, 3) rfl) (by decide) (fun c43 => ?_) (fun c43 => ?_)
      · exact absurd c43 (by decide)
      refine x_aload_n (dtk dt_X12_join0 27 (46, .aload_n 0, 1) rfl) rfl ?_
      refine x_bipush (v := 30) ⟨by decide, by decide⟩ (dtk dt_X12_join0 28 (47, .bipush 30, 2) rfl) ?_
      refine kc_X12_263 rfl (dtk dt_X12_join0 29 (49, .invokevirtual 263, 3) rfl) (c_X12_ran (G := G)  (by first | exact id (AT.wf (hA.rn [41])) | exact id (AT.wf (hA.rn []))) (by first | (show 0 ≤ rnL M [41] 36 14 ∧ rnL M [41] 36 14 < 60; rw [rnL_14]; simp; omega) | (show 0 ≤ rnL M [] 36 14 ∧ rnL M [] 36 14 < 60; rw [rnL_14]; simp; omega))) rfl rfl (wk_36 hA.wf) (fitR (by decide) (by decide)) (Nat.le_of_ble_eq_true rfl) (pqK ?_)
      refine x_aload_n (dtk dt_X12_join0 30 (52, .aload_n 0, 1) rfl) rfl ?_
      refine x_bipush (v := 12) ⟨by decide, by decide⟩ (dtk dt_X12_join0 31 (53, .bipush 12, 2) rfl) ?_
      refine kc_X12_263 rfl (dtk dt_X12_join0 32 (55, .invokevirtual 263, 3) rfl) (c_X12_ran (G := G)  (by first | exact id (AT.wf (hA.rn [41, 30])) | exact id (AT.wf (hA.rn [30])) | exact id (AT.wf (hA.rn [41])) | exact id (AT.wf (hA.rn []))) (by first | (show 0 ≤ rnL M [41, 30] 36 14 ∧ rnL M [41, 30] 36 14 < 60; rw [rnL_14]; simp; omega) | (show 0 ≤ rnL M [30] 36 14 ∧ rnL M [30] 36 14 < 60; rw [rnL_14]; simp; omega) | (show 0 ≤ rnL M [41] 36 14 ∧ rnL M [41] 36 14 < 60; rw [rnL_14]; simp; omega) | (show 0 ≤ rnL M [] 36 14 ∧ rnL M [] 36 14 < 60; rw [rnL_14]; simp; omega))) rfl rfl (wk_36 hA.wf) (fitR (by decide) (by decide)) (Nat.le_of_ble_eq_true rfl) (pqK ?_)
      refine x_iload_n (dtk dt_X12_join0 33 (58, .iload_n 3, 1) rfl) rfl ?_
      refine x_if_eq (tgt := 70) (dtk dt_X12_join0 34 (59, .ifCond .eq 11, 3) rfl) (by decide) (fun c59 => ?_) (fun c59 => ?_)
      · exact absurd c59 (by decide)
      refine x_iload_n (dtk dt_X12_join0 35 (62, .iload_n 2, 1) rfl) rfl ?_
      refine x_iload_n (dtk dt_X12_join0 36 (63, .iload_n 1, 1) rfl) rfl ?_
      refine w_isub (dtk dt_X12_join0 37 (64, .isub, 1) rfl) ?_
      refine x_iconst (v := 3) ⟨by decide, by decide⟩ (dtk dt_X12_join0 38 (65, .iconst 3, 1) rfl) ?_
      refine w_imul (dtk dt_X12_join0 39 (66, .imul, 1) rfl) ?_
      refine x_goto (tgt := 73) (dtk dt_X12_join0 40 (67, .goto 6, 3) rfl) (by decide) ?_
      refine x_istore (dtk dt_X12_join0 44 (73, .istore 4, 2) rfl) (by decide) ?_
      refine x_aload_n (dtk dt_X12_join0 45 (75, .aload_n 0, 1) rfl) rfl ?_
      refine fg_X12_7 rfl (dtk dt_X12_join0 46 (76, .getfield 7, 3) rfl) (wk_36 hA.wf) (by first | exact wm_36_1 (AT.wf (hA.rn [41, 30, 12])) | exact wm_36_1 (AT.wf (hA.rn [30, 12])) | exact wm_36_1 (AT.wf (hA.rn [41, 12])) | exact wm_36_1 (AT.wf (hA.rn [12]))) ?_
      refine x_iload_n (dtk dt_X12_join0 47 (79, .iload_n 1, 1) rfl) rfl ?_
      refine x_iald (dtk dt_X12_join0 48 (80, .iaload, 1) rfl) (wk_37 hA.wf) ⟨by omega, by omega⟩ ?_
      try simp only [ranM_x (show (37 : Int) ≠ 36 ∧ (37 : Int) ≠ 45 by decide), rnL_x (show (37 : Int) ≠ 36 ∧ (37 : Int) ≠ 45 by decide)]
      refine x_iconst (v := 3) ⟨by decide, by decide⟩ (dtk dt_X12_join0 49 (81, .iconst 3, 1) rfl) ?_
      refine x_icmp_ne (tgt := 97) (dtk dt_X12_join0 50 (82, .if_icmp .ne 15, 3) rfl) (by decide) (fun c82 => ?_) (fun c82 => ?_)
      · skip
        refine x_iload (dtk dt_X12_join0 58 (97, .iload 4, 2) rfl) rfl ?_
        exact r_i (dtk dt_X12_join0 59 (99, .ireturn, 1) rfl) rfl (by unfold joinR; simp_all) (by unfold joinT; simp_all [← rnL_app] <;> rfl)
      · skip
        refine x_iload (dtk dt_X12_join0 51 (85, .iload 4, 2) rfl) rfl ?_
        refine x_aload_n (dtk dt_X12_join0 52 (87, .aload_n 0, 1) rfl) rfl ?_
        refine x_iload_n (dtk dt_X12_join0 53 (88, .iload_n 1, 1) rfl) rfl ?_
        refine x_iload_n (dtk dt_X12_join0 54 (89, .iload_n 2, 1) rfl) rfl ?_
        refine kc_X12_266 rfl (dtk dt_X12_join0 55 (90, .invokevirtual 266, 3) rfl) (c_X12_stackLook (G := G)  (by first | exact hA.rn [41, 30, 12] | exact hA.rn [30, 12] | exact hA.rn [41, 12] | exact hA.rn [12]) (by first | (show 0 ≤ rnL M [41, 30, 12] 36 14 ∧ rnL M [41, 30, 12] 36 14 ≤ 55; rw [rnL_14]; simp; omega) | (show 0 ≤ rnL M [30, 12] 36 14 ∧ rnL M [30, 12] 36 14 ≤ 55; rw [rnL_14]; simp; omega) | (show 0 ≤ rnL M [41, 12] 36 14 ∧ rnL M [41, 12] 36 14 ≤ 55; rw [rnL_14]; simp; omega) | (show 0 ≤ rnL M [12] 36 14 ∧ rnL M [12] 36 14 ≤ 55; rw [rnL_14]; simp; omega))) rfl rfl (wk_36 hA.wf) (fitR (by decide) (by decide)) (Nat.le_of_ble_eq_true rfl) (pqK ?_)
        refine w_iadd (dtk dt_X12_join0 56 (93, .iadd, 1) rfl) ?_
        refine x_goto (tgt := 99) (dtk dt_X12_join0 57 (94, .goto 5, 3) rfl) (by decide) ?_
        exact r_i (dtk dt_X12_join0 59 (99, .ireturn, 1) rfl) rfl (by unfold joinR; simp_all) (by unfold joinT; simp_all [← rnL_app] <;> rfl)
    · skip
      refine x_aload_n (dtk dt_X12_join0 15 (26, .aload_n 0, 1) rfl) rfl ?_
      refine fg_X12_7 rfl (dtk dt_X12_join0 16 (27, .getfield 7, 3) rfl) (wk_36 hA.wf) (by first | exact wm_36_1 (AT.wf (hA.rn [41])) | exact wm_36_1 (AT.wf (hA.rn []))) ?_
      refine x_iload_n (dtk dt_X12_join0 17 (30, .iload_n 1, 1) rfl) rfl ?_
      refine x_iald (dtk dt_X12_join0 18 (31, .iaload, 1) rfl) (wk_37 hA.wf) ⟨by omega, by omega⟩ ?_
      try simp only [ranM_x (show (37 : Int) ≠ 36 ∧ (37 : Int) ≠ 45 by decide), rnL_x (show (37 : Int) ≠ 36 ∧ (37 : Int) ≠ 45 by decide)]
      refine x_iconst (v := 3) ⟨by decide, by decide⟩ (dtk dt_X12_join0 19 (32, .iconst 3, 1) rfl) ?_
      refine x_icmp_ne (tgt := 40) (dtk dt_X12_join0 20 (33, .if_icmp .ne 7, 3) rfl) (by decide) (fun c33 => ?_) (fun c33 => ?_)
      · skip
        refine x_iconst (v := 0) ⟨by decide, by decide⟩ (dtk dt_X12_join0 23 (40, .iconst 0, 1) rfl) ?_
        refine x_istore_n (dtk dt_X12_join0 24 (41, .istore_n 3, 1) rfl) (by decide) ?_
        refine x_iload_n (dtk dt_X12_join0 25 (42, .iload_n 3, 1) rfl) rfl ?_
        refine x_if_eq (tgt := 52) (dtk dt_X12_join0 26 (43, .ifCond .eq 9, 3) rfl) (by decide) (fun c43 => ?_) (fun c43 => ?_)
        rotate_left
        · exact absurd (by decide) c43
        refine x_aload_n (dtk dt_X12_join0 30 (52, .aload_n 0, 1) rfl) rfl ?_
        refine x_bipush (v := 12) ⟨by decide, by decide⟩ (dtk dt_X12_join0 31 (53, .bipush 12, 2) rfl) ?_
        refine kc_X12_263 rfl (dtk dt_X12_join0 32 (55, .invokevirtual 263, 3) rfl) (c_X12_ran (G := G)  (by first | exact id (AT.wf (hA.rn [41, 30])) | exact id (AT.wf (hA.rn [30])) | exact id (AT.wf (hA.rn [41])) | exact id (AT.wf (hA.rn []))) (by first | (show 0 ≤ rnL M [41, 30] 36 14 ∧ rnL M [41, 30] 36 14 < 60; rw [rnL_14]; simp; omega) | (show 0 ≤ rnL M [30] 36 14 ∧ rnL M [30] 36 14 < 60; rw [rnL_14]; simp; omega) | (show 0 ≤ rnL M [41] 36 14 ∧ rnL M [41] 36 14 < 60; rw [rnL_14]; simp; omega) | (show 0 ≤ rnL M [] 36 14 ∧ rnL M [] 36 14 < 60; rw [rnL_14]; simp; omega))) rfl rfl (wk_36 hA.wf) (fitR (by decide) (by decide)) (Nat.le_of_ble_eq_true rfl) (pqK ?_)
        refine x_iload_n (dtk dt_X12_join0 33 (58, .iload_n 3, 1) rfl) rfl ?_
        refine x_if_eq (tgt := 70) (dtk dt_X12_join0 34 (59, .ifCond .eq 11, 3) rfl) (by decide) (fun c59 => ?_) (fun c59 => ?_)
        rotate_left
        · exact absurd (by decide) c59
        refine x_iload_n (dtk dt_X12_join0 41 (70, .iload_n 2, 1) rfl) rfl ?_
        refine x_iload_n (dtk dt_X12_join0 42 (71, .iload_n 1, 1) rfl) rfl ?_
        refine w_isub (dtk dt_X12_join0 43 (72, .isub, 1) rfl) ?_
        refine x_istore (dtk dt_X12_join0 44 (73, .istore 4, 2) rfl) (by decide) ?_
        refine x_aload_n (dtk dt_X12_join0 45 (75, .aload_n 0, 1) rfl) rfl ?_
        refine fg_X12_7 rfl (dtk dt_X12_join0 46 (76, .getfield 7, 3) rfl) (wk_36 hA.wf) (by first | exact wm_36_1 (AT.wf (hA.rn [41, 30, 12])) | exact wm_36_1 (AT.wf (hA.rn [30, 12])) | exact wm_36_1 (AT.wf (hA.rn [41, 12])) | exact wm_36_1 (AT.wf (hA.rn [12]))) ?_
        refine x_iload_n (dtk dt_X12_join0 47 (79, .iload_n 1, 1) rfl) rfl ?_
        refine x_iald (dtk dt_X12_join0 48 (80, .iaload, 1) rfl) (wk_37 hA.wf) ⟨by omega, by omega⟩ ?_
        try simp only [ranM_x (show (37 : Int) ≠ 36 ∧ (37 : Int) ≠ 45 by decide), rnL_x (show (37 : Int) ≠ 36 ∧ (37 : Int) ≠ 45 by decide)]
        refine x_iconst (v := 3) ⟨by decide, by decide⟩ (dtk dt_X12_join0 49 (81, .iconst 3, 1) rfl) ?_
        refine x_icmp_ne (tgt := 97) (dtk dt_X12_join0 50 (82, .if_icmp .ne 15, 3) rfl) (by decide) (fun c82 => ?_) (fun c82 => ?_)
        · skip
          refine x_iload (dtk dt_X12_join0 58 (97, .iload 4, 2) rfl) rfl ?_
          exact r_i (dtk dt_X12_join0 59 (99, .ireturn, 1) rfl) rfl (by unfold joinR; simp_all) (by unfold joinT; simp_all [← rnL_app] <;> rfl)
        · skip
          refine x_iload (dtk dt_X12_join0 51 (85, .iload 4, 2) rfl) rfl ?_
          refine x_aload_n (dtk dt_X12_join0 52 (87, .aload_n 0, 1) rfl) rfl ?_
          refine x_iload_n (dtk dt_X12_join0 53 (88, .iload_n 1, 1) rfl) rfl ?_
          refine x_iload_n (dtk dt_X12_join0 54 (89, .iload_n 2, 1) rfl) rfl ?_
          refine kc_X12_266 rfl (dtk dt_X12_join0 55 (90, .invokevirtual 266, 3) rfl) (c_X12_stackLook (G := G)  (by first | exact hA.rn [41, 30, 12] | exact hA.rn [30, 12] | exact hA.rn [41, 12] | exact hA.rn [12]) (by first | (show 0 ≤ rnL M [41, 30, 12] 36 14 ∧ rnL M [41, 30, 12] 36 14 ≤ 55; rw [rnL_14]; simp; omega) | (show 0 ≤ rnL M [30, 12] 36 14 ∧ rnL M [30, 12] 36 14 ≤ 55; rw [rnL_14]; simp; omega) | (show 0 ≤ rnL M [41, 12] 36 14 ∧ rnL M [41, 12] 36 14 ≤ 55; rw [rnL_14]; simp; omega) | (show 0 ≤ rnL M [12] 36 14 ∧ rnL M [12] 36 14 ≤ 55; rw [rnL_14]; simp; omega))) rfl rfl (wk_36 hA.wf) (fitR (by decide) (by decide)) (Nat.le_of_ble_eq_true rfl) (pqK ?_)
          refine w_iadd (dtk dt_X12_join0 56 (93, .iadd, 1) rfl) ?_
          refine x_goto (tgt := 99) (dtk dt_X12_join0 57 (94, .goto 5, 3) rfl) (by decide) ?_
          exact r_i (dtk dt_X12_join0 59 (99, .ireturn, 1) rfl) rfl (by unfold joinR; simp_all) (by unfold joinT; simp_all [← rnL_app] <;> rfl)
      · skip
        refine x_iconst (v := 1) ⟨by decide, by decide⟩ (dtk dt_X12_join0 21 (36, .iconst 1, 1) rfl) ?_
        refine x_goto (tgt := 41) (dtk dt_X12_join0 22 (37, .goto 4, 3) rfl) (by decide) ?_
        refine x_istore_n (dtk dt_X12_join0 24 (41, .istore_n 3, 1) rfl) (by decide) ?_
        refine x_iload_n (dtk dt_X12_join0 25 (42, .iload_n 3, 1) rfl) rfl ?_
        refine x_if_eq (tgt := 52) (dtk dt_X12_join0 26 (43, .ifCond .eq 9, 3) rfl) (by decide) (fun c43 => ?_) (fun c43 => ?_)
        · exact absurd c43 (by decide)
        refine x_aload_n (dtk dt_X12_join0 27 (46, .aload_n 0, 1) rfl) rfl ?_
        refine x_bipush (v := 30) ⟨by decide, by decide⟩ (dtk dt_X12_join0 28 (47, .bipush 30, 2) rfl) ?_
        refine kc_X12_263 rfl (dtk dt_X12_join0 29 (49, .invokevirtual 263, 3) rfl) (c_X12_ran (G := G)  (by first | exact id (AT.wf (hA.rn [41])) | exact id (AT.wf (hA.rn []))) (by first | (show 0 ≤ rnL M [41] 36 14 ∧ rnL M [41] 36 14 < 60; rw [rnL_14]; simp; omega) | (show 0 ≤ rnL M [] 36 14 ∧ rnL M [] 36 14 < 60; rw [rnL_14]; simp; omega))) rfl rfl (wk_36 hA.wf) (fitR (by decide) (by decide)) (Nat.le_of_ble_eq_true rfl) (pqK ?_)
        refine x_aload_n (dtk dt_X12_join0 30 (52, .aload_n 0, 1) rfl) rfl ?_
        refine x_bipush (v := 12) ⟨by decide, by decide⟩ (dtk dt_X12_join0 31 (53, .bipush 12, 2) rfl) ?_
        refine kc_X12_263 rfl (dtk dt_X12_join0 32 (55, .invokevirtual 263, 3) rfl) (c_X12_ran (G := G)  (by first | exact id (AT.wf (hA.rn [41, 30])) | exact id (AT.wf (hA.rn [30])) | exact id (AT.wf (hA.rn [41])) | exact id (AT.wf (hA.rn []))) (by first | (show 0 ≤ rnL M [41, 30] 36 14 ∧ rnL M [41, 30] 36 14 < 60; rw [rnL_14]; simp; omega) | (show 0 ≤ rnL M [30] 36 14 ∧ rnL M [30] 36 14 < 60; rw [rnL_14]; simp; omega) | (show 0 ≤ rnL M [41] 36 14 ∧ rnL M [41] 36 14 < 60; rw [rnL_14]; simp; omega) | (show 0 ≤ rnL M [] 36 14 ∧ rnL M [] 36 14 < 60; rw [rnL_14]; simp; omega))) rfl rfl (wk_36 hA.wf) (fitR (by decide) (by decide)) (Nat.le_of_ble_eq_true rfl) (pqK ?_)
        refine x_iload_n (dtk dt_X12_join0 33 (58, .iload_n 3, 1) rfl) rfl ?_
        refine x_if_eq (tgt := 70) (dtk dt_X12_join0 34 (59, .ifCond .eq 11, 3) rfl) (by decide) (fun c59 => ?_) (fun c59 => ?_)
        · exact absurd c59 (by decide)
        refine x_iload_n (dtk dt_X12_join0 35 (62, .iload_n 2, 1) rfl) rfl ?_
        refine x_iload_n (dtk dt_X12_join0 36 (63, .iload_n 1, 1) rfl) rfl ?_
        refine w_isub (dtk dt_X12_join0 37 (64, .isub, 1) rfl) ?_
        refine x_iconst (v := 3) ⟨by decide, by decide⟩ (dtk dt_X12_join0 38 (65, .iconst 3, 1) rfl) ?_
        refine w_imul (dtk dt_X12_join0 39 (66, .imul, 1) rfl) ?_
        refine x_goto (tgt := 73) (dtk dt_X12_join0 40 (67, .goto 6, 3) rfl) (by decide) ?_
        refine x_istore (dtk dt_X12_join0 44 (73, .istore 4, 2) rfl) (by decide) ?_
        refine x_aload_n (dtk dt_X12_join0 45 (75, .aload_n 0, 1) rfl) rfl ?_
        refine fg_X12_7 rfl (dtk dt_X12_join0 46 (76, .getfield 7, 3) rfl) (wk_36 hA.wf) (by first | exact wm_36_1 (AT.wf (hA.rn [41, 30, 12])) | exact wm_36_1 (AT.wf (hA.rn [30, 12])) | exact wm_36_1 (AT.wf (hA.rn [41, 12])) | exact wm_36_1 (AT.wf (hA.rn [12]))) ?_
        refine x_iload_n (dtk dt_X12_join0 47 (79, .iload_n 1, 1) rfl) rfl ?_
        refine x_iald (dtk dt_X12_join0 48 (80, .iaload, 1) rfl) (wk_37 hA.wf) ⟨by omega, by omega⟩ ?_
        try simp only [ranM_x (show (37 : Int) ≠ 36 ∧ (37 : Int) ≠ 45 by decide), rnL_x (show (37 : Int) ≠ 36 ∧ (37 : Int) ≠ 45 by decide)]
        refine x_iconst (v := 3) ⟨by decide, by decide⟩ (dtk dt_X12_join0 49 (81, .iconst 3, 1) rfl) ?_
        refine x_icmp_ne (tgt := 97) (dtk dt_X12_join0 50 (82, .if_icmp .ne 15, 3) rfl) (by decide) (fun c82 => ?_) (fun c82 => ?_)
        · skip
          refine x_iload (dtk dt_X12_join0 58 (97, .iload 4, 2) rfl) rfl ?_
          exact r_i (dtk dt_X12_join0 59 (99, .ireturn, 1) rfl) rfl (by unfold joinR; simp_all) (by unfold joinT; simp_all [← rnL_app] <;> rfl)
        · skip
          refine x_iload (dtk dt_X12_join0 51 (85, .iload 4, 2) rfl) rfl ?_
          refine x_aload_n (dtk dt_X12_join0 52 (87, .aload_n 0, 1) rfl) rfl ?_
          refine x_iload_n (dtk dt_X12_join0 53 (88, .iload_n 1, 1) rfl) rfl ?_
          refine x_iload_n (dtk dt_X12_join0 54 (89, .iload_n 2, 1) rfl) rfl ?_
          refine kc_X12_266 rfl (dtk dt_X12_join0 55 (90, .invokevirtual 266, 3) rfl) (c_X12_stackLook (G := G)  (by first | exact hA.rn [41, 30, 12] | exact hA.rn [30, 12] | exact hA.rn [41, 12] | exact hA.rn [12]) (by first | (show 0 ≤ rnL M [41, 30, 12] 36 14 ∧ rnL M [41, 30, 12] 36 14 ≤ 55; rw [rnL_14]; simp; omega) | (show 0 ≤ rnL M [30, 12] 36 14 ∧ rnL M [30, 12] 36 14 ≤ 55; rw [rnL_14]; simp; omega) | (show 0 ≤ rnL M [41, 12] 36 14 ∧ rnL M [41, 12] 36 14 ≤ 55; rw [rnL_14]; simp; omega) | (show 0 ≤ rnL M [12] 36 14 ∧ rnL M [12] 36 14 ≤ 55; rw [rnL_14]; simp; omega))) rfl rfl (wk_36 hA.wf) (fitR (by decide) (by decide)) (Nat.le_of_ble_eq_true rfl) (pqK ?_)
          refine w_iadd (dtk dt_X12_join0 56 (93, .iadd, 1) rfl) ?_
          refine x_goto (tgt := 99) (dtk dt_X12_join0 57 (94, .goto 5, 3) rfl) (by decide) ?_
          exact r_i (dtk dt_X12_join0 59 (99, .ireturn, 1) rfl) rfl (by unfold joinR; simp_all) (by unfold joinT; simp_all [← rnL_app] <;> rfl)
set_option maxRecDepth 100000 in
set_option maxHeartbeats 4000000 in
theorem c_X12_orderTell {G : GG} {n : Nat} {K : KK} {M : MM} {o x : Int} {m : Int} {d : Int → Int} (hA : AT K M o m d) (ht : 0 ≤ M 36 14 ∧ M 36 14 ≤ 35) : MC G mi_X12_orderTell 6 0 0 [(1, 36), (0, o), (0, x)] n K M (PQ (some (0, otR (M 37 o) m (prs m d) o x)) n K (rnL M (otT (M 37 o)))) := by
  refine MC.intro (lc := [(0, (1, 36)), (1, (0, o)), (2, (0, x))]) (by decide) rfl (by simp [Nat.ble]) (Nat.le_of_ble_eq_true rfl) rfl (fun hMR => ?_)
  have ho := hA.2.1
  have hl1 := partT_len (M 37 o)
  refine x_aload_n (dtk dt_X12_orderTell 0 (0, .aload_n 0, 1) rfl) rfl ?_
  refine x_bipush (v := 13) ⟨by decide, by decide⟩ (dtk dt_X12_orderTell 1 (1, .bipush 13, 2) rfl) ?_
  refine kc_X12_263 rfl (dtk dt_X12_orderTell 2 (3, .invokevirtual 263, 3) rfl) (c_X12_ran (G := G)  (WF.rn hA.wf []) (by have hq := rnL_14 [] M; simp only [List.length_cons, List.length_nil, List.length_append] at hq; show 0 ≤ rnL M [] 36 14 ∧ rnL M [] 36 14 < 60; omega)) rfl rfl (wk_36 hA.wf) (fitR (by decide) (by decide)) (Nat.le_of_ble_eq_true rfl) (pqK ?_)
  refine x_aload_n (dtk dt_X12_orderTell 3 (6, .aload_n 0, 1) rfl) rfl ?_
  refine x_iload_n (dtk dt_X12_orderTell 4 (7, .iload_n 1, 1) rfl) rfl ?_
  refine x_iload_n (dtk dt_X12_orderTell 5 (8, .iload_n 2, 1) rfl) rfl ?_
  refine kc_X12_275 rfl (dtk dt_X12_orderTell 6 (9, .invokevirtual 275, 3) rfl) (c_X12_part0 (G := G)  (hA.rn [13]) (by have hq := rnL_14 [13] M; simp only [List.length_cons, List.length_nil, List.length_append] at hq; show 0 ≤ rnL M [13] 36 14 ∧ rnL M [13] 36 14 ≤ 45; omega)) rfl rfl (wk_36 hA.wf) (fitR (by decide) (by decide)) (Nat.le_of_ble_eq_true rfl) (pqK ?_)
  try simp only [ranM_x (show (37 : Int) ≠ 36 ∧ (37 : Int) ≠ 45 by decide), rnL_x (show (37 : Int) ≠ 36 ∧ (37 : Int) ≠ 45 by decide)]
  refine x_istore_n (dtk dt_X12_orderTell 7 (12, .istore_n 3, 1) rfl) (by decide) ?_
  refine x_iload_n (dtk dt_X12_orderTell 8 (13, .iload_n 3, 1) rfl) rfl ?_
  refine x_aload_n (dtk dt_X12_orderTell 9 (14, .aload_n 0, 1) rfl) rfl ?_
  refine x_iload_n (dtk dt_X12_orderTell 10 (15, .iload_n 1, 1) rfl) rfl ?_
  refine x_iload_n (dtk dt_X12_orderTell 11 (16, .iload_n 2, 1) rfl) rfl ?_
  refine kc_X12_278 rfl (dtk dt_X12_orderTell 12 (17, .invokevirtual 278, 3) rfl) (c_X12_join0 (G := G)  ((hA.rn [13]).rn _) (by rw [rnL_14, ranM_14]; omega)) rfl rfl (wk_36 hA.wf) (fitR (by decide) (by decide)) (Nat.le_of_ble_eq_true rfl) (pqK ?_)
  try simp only [ranM_x (show (37 : Int) ≠ 36 ∧ (37 : Int) ≠ 45 by decide), rnL_x (show (37 : Int) ≠ 36 ∧ (37 : Int) ≠ 45 by decide)]
  refine x_ixor (dtk dt_X12_orderTell 13 (20, .ixor, 1) rfl) ?_
  exact r_i (dtk dt_X12_orderTell 14 (21, .ireturn, 1) rfl) rfl rfl (by unfold otT; rw [← rnL_app, ← rnL_app]; rfl)
set_option maxRecDepth 100000 in
set_option maxHeartbeats 4000000 in
theorem c_X12_tell0 {G : GG} {n : Nat} {K : KK} {M : MM} {o x : Int} {m : Int} {d : Int → Int} (hA : AT K M o m d) (ht : 0 ≤ M 36 14 ∧ M 36 14 ≤ 20) : MC G mi_X12_tell0 7 0 0 [(1, 36), (0, o), (0, x)] n K M (PQ (some (0, tellR (M 37 o) m (prs m d) o x)) n K (rnL M (tellT (M 37 o)))) := by
  refine MC.intro (lc := [(0, (1, 36)), (1, (0, o)), (2, (0, x))]) (by decide) rfl (by simp [Nat.ble]) (Nat.le_of_ble_eq_true rfl) rfl (fun hMR => ?_)
  have ho := hA.2.1
  have hl1 := joinT_len (M 37 o)
  refine x_aload_n (dtk dt_X12_tell0 0 (0, .aload_n 0, 1) rfl) rfl ?_
  refine x_iload_n (dtk dt_X12_tell0 1 (1, .iload_n 1, 1) rfl) rfl ?_
  refine kc_X12_269 rfl (dtk dt_X12_tell0 2 (2, .invokevirtual 269, 3) rfl) (c_X12_isStack (G := G)  hA.wf (by omega)) rfl rfl (wk_36 hA.wf) (fitR (by decide) (by decide)) (Nat.le_of_ble_eq_true rfl) (pqK ?_)
  refine x_if_eqB (tgt := 23) (dtk dt_X12_tell0 3 (5, .ifCond .eq 18, 3) rfl) (by decide) (fun c5 => ?_) (fun c5 => ?_)
  · skip
    refine x_aload_n (dtk dt_X12_tell0 14 (23, .aload_n 0, 1) rfl) rfl ?_
    refine fg_X12_7 rfl (dtk dt_X12_tell0 15 (24, .getfield 7, 3) rfl) (wk_36 hA.wf) (wm_36_1 hA.wf) ?_
    refine x_iload_n (dtk dt_X12_tell0 16 (27, .iload_n 1, 1) rfl) rfl ?_
    refine x_iald (dtk dt_X12_tell0 17 (28, .iaload, 1) rfl) (wk_37 hA.wf) ⟨by omega, by omega⟩ ?_
    refine x_iconst (v := 4) ⟨by decide, by decide⟩ (dtk dt_X12_tell0 18 (29, .iconst 4, 1) rfl) ?_
    refine x_icmp_ne (tgt := 55) (dtk dt_X12_tell0 19 (30, .if_icmp .ne 25, 3) rfl) (by decide) (fun c30 => ?_) (fun c30 => ?_)
    · skip
      refine x_aload_n (dtk dt_X12_tell0 35 (55, .aload_n 0, 1) rfl) rfl ?_
      refine x_iload_n (dtk dt_X12_tell0 36 (56, .iload_n 1, 1) rfl) rfl ?_
      refine x_iload_n (dtk dt_X12_tell0 37 (57, .iload_n 2, 1) rfl) rfl ?_
      refine kc_X12_281 rfl (dtk dt_X12_tell0 38 (58, .invokevirtual 281, 3) rfl) (c_X12_orderTell (G := G)  hA (by omega)) rfl rfl (wk_36 hA.wf) (fitR (by decide) (by decide)) (Nat.le_of_ble_eq_true rfl) (pqK ?_)
      exact r_i (dtk dt_X12_tell0 39 (61, .ireturn, 1) rfl) rfl (by unfold tellR; simp_all) (by unfold tellT; simp_all [← rnL_app] <;> rfl)
    · skip
      refine x_aload_n (dtk dt_X12_tell0 20 (33, .aload_n 0, 1) rfl) rfl ?_
      refine x_bipush (v := 51) ⟨by decide, by decide⟩ (dtk dt_X12_tell0 21 (34, .bipush 51, 2) rfl) ?_
      refine kc_X12_263 rfl (dtk dt_X12_tell0 22 (36, .invokevirtual 263, 3) rfl) (c_X12_ran (G := G)  (WF.rn hA.wf []) (by have hq := rnL_14 [] M; simp only [List.length_cons, List.length_nil, List.length_append] at hq; show 0 ≤ rnL M [] 36 14 ∧ rnL M [] 36 14 < 60; omega)) rfl rfl (wk_36 hA.wf) (fitR (by decide) (by decide)) (Nat.le_of_ble_eq_true rfl) (pqK ?_)
      refine x_aload_n (dtk dt_X12_tell0 23 (39, .aload_n 0, 1) rfl) rfl ?_
      refine x_iload_n (dtk dt_X12_tell0 24 (40, .iload_n 1, 1) rfl) rfl ?_
      refine x_iload_n (dtk dt_X12_tell0 25 (41, .iload_n 2, 1) rfl) rfl ?_
      refine kc_X12_278 rfl (dtk dt_X12_tell0 26 (42, .invokevirtual 278, 3) rfl) (c_X12_join0 (G := G)  (hA.rn [51]) (by have hq := rnL_14 [51] M; simp only [List.length_cons, List.length_nil, List.length_append] at hq; show 0 ≤ rnL M [51] 36 14 ∧ rnL M [51] 36 14 ≤ 45; omega)) rfl rfl (wk_36 hA.wf) (fitR (by decide) (by decide)) (Nat.le_of_ble_eq_true rfl) (pqK ?_)
      try simp only [ranM_x (show (37 : Int) ≠ 36 ∧ (37 : Int) ≠ 45 by decide), rnL_x (show (37 : Int) ≠ 36 ∧ (37 : Int) ≠ 45 by decide)]
      refine x_istore_n (dtk dt_X12_tell0 27 (45, .istore_n 3, 1) rfl) (by decide) ?_
      refine x_iload_n (dtk dt_X12_tell0 28 (46, .iload_n 3, 1) rfl) rfl ?_
      refine x_aload_n (dtk dt_X12_tell0 29 (47, .aload_n 0, 1) rfl) rfl ?_
      refine x_iload_n (dtk dt_X12_tell0 30 (48, .iload_n 1, 1) rfl) rfl ?_
      refine x_iload_n (dtk dt_X12_tell0 31 (49, .iload_n 2, 1) rfl) rfl ?_
      refine kc_X12_281 rfl (dtk dt_X12_tell0 32 (50, .invokevirtual 281, 3) rfl) (c_X12_orderTell (G := G)  ((hA.rn [51]).rn _) (by rw [rnL_14, ranM_14]; omega)) rfl rfl (wk_36 hA.wf) (fitR (by decide) (by decide)) (Nat.le_of_ble_eq_true rfl) (pqK ?_)
      try simp only [ranM_x (show (37 : Int) ≠ 36 ∧ (37 : Int) ≠ 45 by decide), rnL_x (show (37 : Int) ≠ 36 ∧ (37 : Int) ≠ 45 by decide)]
      refine w_iadd (dtk dt_X12_tell0 33 (53, .iadd, 1) rfl) ?_
      exact r_i (dtk dt_X12_tell0 34 (54, .ireturn, 1) rfl) rfl (by unfold tellR; simp_all) (by unfold tellT; simp_all [← rnL_app] <;> rfl)
  · skip
    refine x_aload_n (dtk dt_X12_tell0 4 (8, .aload_n 0, 1) rfl) rfl ?_
    refine x_bipush (v := 21) ⟨by decide, by decide⟩ (dtk dt_X12_tell0 5 (9, .bipush 21, 2) rfl) ?_
    refine kc_X12_263 rfl (dtk dt_X12_tell0 6 (11, .invokevirtual 263, 3) rfl) (c_X12_ran (G := G)  (WF.rn hA.wf []) (by have hq := rnL_14 [] M; simp only [List.length_cons, List.length_nil, List.length_append] at hq; show 0 ≤ rnL M [] 36 14 ∧ rnL M [] 36 14 < 60; omega)) rfl rfl (wk_36 hA.wf) (fitR (by decide) (by decide)) (Nat.le_of_ble_eq_true rfl) (pqK ?_)
    refine x_aload_n (dtk dt_X12_tell0 7 (14, .aload_n 0, 1) rfl) rfl ?_
    refine x_iload_n (dtk dt_X12_tell0 8 (15, .iload_n 1, 1) rfl) rfl ?_
    refine x_iload_n (dtk dt_X12_tell0 9 (16, .iload_n 2, 1) rfl) rfl ?_
    refine x_iconst (v := 2) ⟨by decide, by decide⟩ (dtk dt_X12_tell0 10 (17, .iconst 2, 1) rfl) ?_
    refine w_imul (dtk dt_X12_tell0 11 (18, .imul, 1) rfl) ?_
    refine kc_X12_281 rfl (dtk dt_X12_tell0 12 (19, .invokevirtual 281, 3) rfl) (c_X12_orderTell (G := G)  (hA.rn [21]) (by have hq := rnL_14 [21] M; simp only [List.length_cons, List.length_nil, List.length_append] at hq; show 0 ≤ rnL M [21] 36 14 ∧ rnL M [21] 36 14 ≤ 35; omega)) rfl rfl (wk_36 hA.wf) (fitR (by decide) (by decide)) (Nat.le_of_ble_eq_true rfl) (pqK ?_)
    try simp only [ranM_x (show (37 : Int) ≠ 36 ∧ (37 : Int) ≠ 45 by decide), rnL_x (show (37 : Int) ≠ 36 ∧ (37 : Int) ≠ 45 by decide)]
    exact r_i (dtk dt_X12_tell0 13 (22, .ireturn, 1) rfl) rfl (by unfold tellR; simp_all) (by unfold tellT; simp_all [← rnL_app] <;> rfl)
set_option maxRecDepth 100000 in
set_option maxHeartbeats 4000000 in
theorem c_X12_act {G : GG} {n : Nat} {K : KK} {M : MM} {o a x : Int} (hm : MO K M) : MC G mi_X12_act 8 0 0 [(1, 36), (0, o), (0, a), (0, x)] n K M (PQ (some (0, if isOr M o && (decide (0 ≤ a) && decide (a ≤ 3)) then actR a (M 37 o) (M 38 o) (prs (M 38 o) (dM M o)) o x else -1)) n K (if isOr M o && (decide (0 ≤ a) && decide (a ≤ 3)) then st2 (rnL (st2 M 36 14 0) (actT a (M 37 o))) 36 12 0 else st2 M 36 12 1)) := by
  refine MC.intro (lc := [(0, (1, 36)), (1, (0, o)), (2, (0, a)), (3, (0, x))]) (by decide) rfl (by simp [Nat.ble]) (Nat.le_of_ble_eq_true rfl) rfl (fun hMR => ?_)
  refine x_aload_n (dtk dt_X12_act 0 (0, .aload_n 0, 1) rfl) rfl ?_
  refine x_iload_n (dtk dt_X12_act 1 (1, .iload_n 1, 1) rfl) rfl ?_
  refine kc_X12_78 rfl (dtk dt_X12_act 2 (2, .invokevirtual 78, 3) rfl) (c_X12_isOrder (G := G)  hm) rfl rfl (wk_36 hm.1) (fitR (by decide) (by decide)) (Nat.le_of_ble_eq_true rfl) (pqK ?_)
  refine x_if_eqB (tgt := 17) (dtk dt_X12_act 3 (5, .ifCond .eq 12, 3) rfl) (by decide) (fun c5 => ?_) (fun c5 => ?_)
  · skip
    refine x_aload_n (dtk dt_X12_act 9 (17, .aload_n 0, 1) rfl) rfl ?_
    refine x_iconst (v := 1) ⟨by decide, by decide⟩ (dtk dt_X12_act 10 (18, .iconst 1, 1) rfl) ?_
    refine kc_X12_89 rfl (dtk dt_X12_act 11 (19, .invokevirtual 89, 3) rfl) (c_X12_refused (G := G)  hm.1) rfl rfl (wk_36 hm.1) (fitR (by decide) (by decide)) (Nat.le_of_ble_eq_true rfl) (pqK ?_)
    exact r_i (dtk dt_X12_act 12 (22, .ireturn, 1) rfl) rfl (by unfold actR; simp_all <;> omega) (by unfold actT; simp_all <;> omega)
  · skip
    refine x_iload_n (dtk dt_X12_act 4 (8, .iload_n 2, 1) rfl) rfl ?_
    refine x_iconst (v := 0) ⟨by decide, by decide⟩ (dtk dt_X12_act 5 (9, .iconst 0, 1) rfl) ?_
    refine x_iconst (v := 3) ⟨by decide, by decide⟩ (dtk dt_X12_act 6 (10, .iconst 3, 1) rfl) ?_
    refine kc_X12_74 rfl (dtk dt_X12_act 7 (11, .invokestatic 74, 3) rfl) (c_X12_in (G := G)  ) rfl rfl (fitR (by decide) (by decide)) (Nat.le_of_ble_eq_true rfl) (pqK ?_)
    refine x_if_neB (tgt := 23) (dtk dt_X12_act 8 (14, .ifCond .ne 9, 3) rfl) (by decide) (fun c14 => ?_) (fun c14 => ?_)
    · skip
      have ho := isOr_of hm c5
      have hA : AT K M o (M 38 o) (dM M o) := ⟨hm, ho, rfl, rfl⟩
      have hA0 : AT K (st2 M 36 14 0) o (M 38 o) (dM M o) := hA.fl (by decide) rfl
      have ha : 0 ≤ a ∧ a ≤ 3 := by (simp at c14; omega)
      refine x_aload_n (dtk dt_X12_act 13 (23, .aload_n 0, 1) rfl) rfl ?_
      refine x_iconst (v := 0) ⟨by decide, by decide⟩ (dtk dt_X12_act 14 (24, .iconst 0, 1) rfl) ?_
      refine fp_X12_246 rfl (dtk dt_X12_act 15 (25, .putfield 246, 3) rfl) (wk_36 hm.1) ?_
      refine x_aload_n (dtk dt_X12_act 16 (28, .aload_n 0, 1) rfl) rfl ?_
      refine x_iload_n (dtk dt_X12_act 17 (29, .iload_n 2, 1) rfl) rfl ?_
      refine x_if_ne (tgt := 42) (dtk dt_X12_act 18 (30, .ifCond .ne 12, 3) rfl) (by decide) (fun c30 => ?_) (fun c30 => ?_)
      · skip
        refine x_iload_n (dtk dt_X12_act 24 (42, .iload_n 2, 1) rfl) rfl ?_
        refine x_iconst (v := 1) ⟨by decide, by decide⟩ (dtk dt_X12_act 25 (43, .iconst 1, 1) rfl) ?_
        refine x_icmp_ne (tgt := 56) (dtk dt_X12_act 26 (44, .if_icmp .ne 12, 3) rfl) (by decide) (fun c44 => ?_) (fun c44 => ?_)
        · skip
          refine x_iload_n (dtk dt_X12_act 32 (56, .iload_n 2, 1) rfl) rfl ?_
          refine x_iconst (v := 2) ⟨by decide, by decide⟩ (dtk dt_X12_act 33 (57, .iconst 2, 1) rfl) ?_
          refine x_icmp_ne (tgt := 70) (dtk dt_X12_act 34 (58, .if_icmp .ne 12, 3) rfl) (by decide) (fun c58 => ?_) (fun c58 => ?_)
          · skip
            refine x_aload_n (dtk dt_X12_act 40 (70, .aload_n 0, 1) rfl) rfl ?_
            refine x_iload_n (dtk dt_X12_act 41 (71, .iload_n 1, 1) rfl) rfl ?_
            refine x_iload_n (dtk dt_X12_act 42 (72, .iload_n 3, 1) rfl) rfl ?_
            refine kc_X12_284 rfl (dtk dt_X12_act 43 (73, .invokevirtual 284, 3) rfl) (c_X12_tell0 (G := G)  hA0 (by simp [st2])) rfl rfl (wk_36 hm.1) (fitR (by decide) (by decide)) (Nat.le_of_ble_eq_true rfl) (pqK ?_)
            simp only [st2_ne _ (show (37 : Int) ≠ 36 by decide)]
            refine kc_X12_97 rfl (dtk dt_X12_act 44 (76, .invokevirtual 97, 3) rfl) (c_X12_done (G := G)  (WF.rn hA0.wf _)) rfl rfl (wk_36 hm.1) (fitR (by decide) (by decide)) (Nat.le_of_ble_eq_true rfl) (pqK ?_)
            exact r_i (dtk dt_X12_act 45 (79, .ireturn, 1) rfl) rfl (by unfold actR; simp_all <;> omega) (by unfold actT; simp_all <;> omega)
          · skip
            refine x_aload_n (dtk dt_X12_act 35 (61, .aload_n 0, 1) rfl) rfl ?_
            refine x_iload_n (dtk dt_X12_act 36 (62, .iload_n 1, 1) rfl) rfl ?_
            refine x_iload_n (dtk dt_X12_act 37 (63, .iload_n 3, 1) rfl) rfl ?_
            refine kc_X12_278 rfl (dtk dt_X12_act 38 (64, .invokevirtual 278, 3) rfl) (c_X12_join0 (G := G)  hA0 (by simp [st2])) rfl rfl (wk_36 hm.1) (fitR (by decide) (by decide)) (Nat.le_of_ble_eq_true rfl) (pqK ?_)
            simp only [st2_ne _ (show (37 : Int) ≠ 36 by decide)]
            refine x_goto (tgt := 76) (dtk dt_X12_act 39 (67, .goto 9, 3) rfl) (by decide) ?_
            refine kc_X12_97 rfl (dtk dt_X12_act 44 (76, .invokevirtual 97, 3) rfl) (c_X12_done (G := G)  (WF.rn hA0.wf _)) rfl rfl (wk_36 hm.1) (fitR (by decide) (by decide)) (Nat.le_of_ble_eq_true rfl) (pqK ?_)
            exact r_i (dtk dt_X12_act 45 (79, .ireturn, 1) rfl) rfl (by unfold actR; simp_all <;> omega) (by unfold actT; simp_all <;> omega)
        · skip
          refine x_aload_n (dtk dt_X12_act 27 (47, .aload_n 0, 1) rfl) rfl ?_
          refine x_iload_n (dtk dt_X12_act 28 (48, .iload_n 1, 1) rfl) rfl ?_
          refine x_iload_n (dtk dt_X12_act 29 (49, .iload_n 3, 1) rfl) rfl ?_
          refine kc_X12_275 rfl (dtk dt_X12_act 30 (50, .invokevirtual 275, 3) rfl) (c_X12_part0 (G := G)  hA0 (by simp [st2])) rfl rfl (wk_36 hm.1) (fitR (by decide) (by decide)) (Nat.le_of_ble_eq_true rfl) (pqK ?_)
          simp only [st2_ne _ (show (37 : Int) ≠ 36 by decide)]
          refine x_goto (tgt := 76) (dtk dt_X12_act 31 (53, .goto 23, 3) rfl) (by decide) ?_
          refine kc_X12_97 rfl (dtk dt_X12_act 44 (76, .invokevirtual 97, 3) rfl) (c_X12_done (G := G)  (WF.rn hA0.wf _)) rfl rfl (wk_36 hm.1) (fitR (by decide) (by decide)) (Nat.le_of_ble_eq_true rfl) (pqK ?_)
          exact r_i (dtk dt_X12_act 45 (79, .ireturn, 1) rfl) rfl (by unfold actR; simp_all <;> omega) (by unfold actT; simp_all <;> omega)
      · skip
        refine x_aload_n (dtk dt_X12_act 19 (33, .aload_n 0, 1) rfl) rfl ?_
        refine x_iload_n (dtk dt_X12_act 20 (34, .iload_n 1, 1) rfl) rfl ?_
        refine x_iload_n (dtk dt_X12_act 21 (35, .iload_n 3, 1) rfl) rfl ?_
        refine kc_X12_272 rfl (dtk dt_X12_act 22 (36, .invokevirtual 272, 3) rfl) (c_X12_look0 (G := G)  hA0 (by simp [st2])) rfl rfl (wk_36 hm.1) (fitR (by decide) (by decide)) (Nat.le_of_ble_eq_true rfl) (pqK ?_)
        simp only [st2_ne _ (show (37 : Int) ≠ 36 by decide)]
        refine x_goto (tgt := 76) (dtk dt_X12_act 23 (39, .goto 37, 3) rfl) (by decide) ?_
        refine kc_X12_97 rfl (dtk dt_X12_act 44 (76, .invokevirtual 97, 3) rfl) (c_X12_done (G := G)  (WF.rn hA0.wf _)) rfl rfl (wk_36 hm.1) (fitR (by decide) (by decide)) (Nat.le_of_ble_eq_true rfl) (pqK ?_)
        exact r_i (dtk dt_X12_act 45 (79, .ireturn, 1) rfl) rfl (by unfold actR; simp_all <;> omega) (by unfold actT; simp_all <;> omega)
    · skip
      refine x_aload_n (dtk dt_X12_act 9 (17, .aload_n 0, 1) rfl) rfl ?_
      refine x_iconst (v := 1) ⟨by decide, by decide⟩ (dtk dt_X12_act 10 (18, .iconst 1, 1) rfl) ?_
      refine kc_X12_89 rfl (dtk dt_X12_act 11 (19, .invokevirtual 89, 3) rfl) (c_X12_refused (G := G)  hm.1) rfl rfl (wk_36 hm.1) (fitR (by decide) (by decide)) (Nat.le_of_ble_eq_true rfl) (pqK ?_)
      exact r_i (dtk dt_X12_act 12 (22, .ireturn, 1) rfl) rfl (by unfold actR; simp_all <;> omega) (by unfold actT; simp_all <;> omega)
set_option maxRecDepth 100000 in
set_option maxHeartbeats 4000000 in
theorem c_X12_trace {G : GG} {n : Nat} {K : KK} {M : MM} {i : Int} (hw : WF K M) (ht : 0 ≤ M 36 14 ∧ M 36 14 ≤ 60) : MC G mi_X12_trace 2 0 0 [(1, 36), (0, i)] n K M (PQ (some (0, if 0 ≤ i ∧ i < M 36 14 then M 45 i else -1)) n K (M)) := by
  refine MC.intro (lc := [(0, (1, 36)), (1, (0, i))]) (by decide) rfl (by simp [Nat.ble]) (Nat.le_of_ble_eq_true rfl) rfl (fun hMR => ?_)
  refine x_iload_n (dtk dt_X12_trace 0 (0, .iload_n 1, 1) rfl) rfl ?_
  refine x_iconst (v := 0) ⟨by decide, by decide⟩ (dtk dt_X12_trace 1 (1, .iconst 0, 1) rfl) ?_
  refine x_aload_n (dtk dt_X12_trace 2 (2, .aload_n 0, 1) rfl) rfl ?_
  refine fg_X12_246 rfl (dtk dt_X12_trace 3 (3, .getfield 246, 3) rfl) (wk_36 hw) rfl ?_
  refine x_bipush (v := 60) ⟨by decide, by decide⟩ (dtk dt_X12_trace 4 (6, .bipush 60, 2) rfl) ?_
  refine x_icmp_ge (tgt := 18) (dtk dt_X12_trace 5 (8, .if_icmp .ge 10, 3) rfl) (by decide) (fun c8 => ?_) (fun c8 => ?_)
  · skip
    refine x_bipush (v := 60) ⟨by decide, by decide⟩ (dtk dt_X12_trace 9 (18, .bipush 60, 2) rfl) ?_
    refine x_iconst (v := 1) ⟨by decide, by decide⟩ (dtk dt_X12_trace 10 (20, .iconst 1, 1) rfl) ?_
    refine y_isub (dtk dt_X12_trace 11 (21, .isub, 1) rfl) ⟨by omega, by omega⟩ ?_
    refine kc_X12_74 rfl (dtk dt_X12_trace 12 (22, .invokestatic 74, 3) rfl) (c_X12_in (G := G)  ) rfl rfl (fitR (by decide) (by decide)) (Nat.le_of_ble_eq_true rfl) (pqK ?_)
    refine x_if_eqB (tgt := 37) (dtk dt_X12_trace 13 (25, .ifCond .eq 12, 3) rfl) (by decide) (fun c25 => ?_) (fun c25 => ?_)
    · skip
      simp at c25
      refine x_iconst (v := -1) ⟨by decide, by decide⟩ (dtk dt_X12_trace 19 (37, .iconst (-1), 1) rfl) ?_
      exact r_i (dtk dt_X12_trace 20 (38, .ireturn, 1) rfl) rfl (by first | (rw [if_pos (by omega)]) | (rw [if_neg (by omega)])) rfl
    · skip
      simp at c25
      refine x_aload_n (dtk dt_X12_trace 14 (28, .aload_n 0, 1) rfl) rfl ?_
      refine fg_X12_38 rfl (dtk dt_X12_trace 15 (29, .getfield 38, 3) rfl) (wk_36 hw) (wm_36_13 hw) ?_
      refine x_iload_n (dtk dt_X12_trace 16 (32, .iload_n 1, 1) rfl) rfl ?_
      refine x_iald (dtk dt_X12_trace 17 (33, .iaload, 1) rfl) (wk_45 hw) ⟨by omega, by omega⟩ ?_
      refine x_goto (tgt := 38) (dtk dt_X12_trace 18 (34, .goto 4, 3) rfl) (by decide) ?_
      exact r_i (dtk dt_X12_trace 20 (38, .ireturn, 1) rfl) rfl (by first | (rw [if_pos (by omega)]) | (rw [if_neg (by omega)])) rfl
  · skip
    refine x_aload_n (dtk dt_X12_trace 6 (11, .aload_n 0, 1) rfl) rfl ?_
    refine fg_X12_246 rfl (dtk dt_X12_trace 7 (12, .getfield 246, 3) rfl) (wk_36 hw) rfl ?_
    refine x_goto (tgt := 20) (dtk dt_X12_trace 8 (15, .goto 5, 3) rfl) (by decide) ?_
    refine x_iconst (v := 1) ⟨by decide, by decide⟩ (dtk dt_X12_trace 10 (20, .iconst 1, 1) rfl) ?_
    refine y_isub (dtk dt_X12_trace 11 (21, .isub, 1) rfl) ⟨by omega, by omega⟩ ?_
    refine kc_X12_74 rfl (dtk dt_X12_trace 12 (22, .invokestatic 74, 3) rfl) (c_X12_in (G := G)  ) rfl rfl (fitR (by decide) (by decide)) (Nat.le_of_ble_eq_true rfl) (pqK ?_)
    refine x_if_eqB (tgt := 37) (dtk dt_X12_trace 13 (25, .ifCond .eq 12, 3) rfl) (by decide) (fun c25 => ?_) (fun c25 => ?_)
    · skip
      simp at c25
      refine x_iconst (v := -1) ⟨by decide, by decide⟩ (dtk dt_X12_trace 19 (37, .iconst (-1), 1) rfl) ?_
      exact r_i (dtk dt_X12_trace 20 (38, .ireturn, 1) rfl) rfl (by first | (rw [if_pos (by omega)]) | (rw [if_neg (by omega)])) rfl
    · skip
      simp at c25
      refine x_aload_n (dtk dt_X12_trace 14 (28, .aload_n 0, 1) rfl) rfl ?_
      refine fg_X12_38 rfl (dtk dt_X12_trace 15 (29, .getfield 38, 3) rfl) (wk_36 hw) (wm_36_13 hw) ?_
      refine x_iload_n (dtk dt_X12_trace 16 (32, .iload_n 1, 1) rfl) rfl ?_
      refine x_iald (dtk dt_X12_trace 17 (33, .iaload, 1) rfl) (wk_45 hw) ⟨by omega, by omega⟩ ?_
      refine x_goto (tgt := 38) (dtk dt_X12_trace 18 (34, .goto 4, 3) rfl) (by decide) ?_
      exact r_i (dtk dt_X12_trace 20 (38, .ireturn, 1) rfl) rfl (by first | (rw [if_pos (by omega)]) | (rw [if_neg (by omega)])) rfl
set_option maxRecDepth 100000 in
set_option maxHeartbeats 4000000 in
theorem c_X12_lay {G : GG} {n : Nat} {K : KK} {M : MM} {o t : Int} (hm : MO K M) (hv : HV M) : MC G mi_X12_lay 4 0 0 [(1, 36), (0, o), (0, t)] n K M (PQ (some (0, if isTh M o t then (if hadH M o t then -1 else M 36 5 + 1) else -1)) n K (if isTh M o t then (if hadH M o t then st2 M 36 12 3 else wasLay M o t) else st2 M 36 12 1)) := by
  refine MC.intro (lc := [(0, (1, 36)), (1, (0, o)), (2, (0, t))]) (by decide) rfl (by simp [Nat.ble]) (Nat.le_of_ble_eq_true rfl) rfl (fun hMR => ?_)
  have hh := hv.1
  refine x_aload_n (dtk dt_X12_lay 0 (0, .aload_n 0, 1) rfl) rfl ?_
  refine x_iload_n (dtk dt_X12_lay 1 (1, .iload_n 1, 1) rfl) rfl ?_
  refine x_iload_n (dtk dt_X12_lay 2 (2, .iload_n 2, 1) rfl) rfl ?_
  refine kc_X12_110 rfl (dtk dt_X12_lay 3 (3, .invokevirtual 110, 3) rfl) (c_X12_isThing (G := G)  hm) rfl rfl (wk_36 hm.1) (fitR (by decide) (by decide)) (Nat.le_of_ble_eq_true rfl) (pqK ?_)
  refine x_if_neB (tgt := 15) (dtk dt_X12_lay 4 (6, .ifCond .ne 9, 3) rfl) (by decide) (fun c6 => ?_) (fun c6 => ?_)
  · skip
    have htt := isTh_of hm c6
    have J35_4 : ∀ (j : Bool), (j = (decide (0 < M 36 5) && decide (M 36 4 ≠ o))) → MW G mi_X12_lay (rmd 4 0 0) (MZ G (PQ (some (0, if isTh M o t then (if hadH M o t then -1 else M 36 5 + 1) else -1)) n K (if isTh M o t then (if hadH M o t then st2 M 36 12 3 else wasLay M o t) else st2 M 36 12 1)) 0 0) (0, 0) 35 [(0, (1, 36)), (1, (0, o)), (2, (0, t))] [(0, B j)] n K (M) := by
      intro j hJ
      refine x_istore_n (dtk dt_X12_lay 19 (35, .istore_n 3, 1) rfl) (by decide) ?_
      refine x_iconst (v := 0) ⟨by decide, by decide⟩ (dtk dt_X12_lay 20 (36, .iconst 0, 1) rfl) ?_
      refine x_istore (dtk dt_X12_lay 21 (37, .istore 4, 2) rfl) (by decide) ?_
      have L39 : ∀ (fu : Nat) (v3 : Bool) (v4 : Int), (0 ≤ v4 ∧ v4 ≤ M 36 5) → (v3 = ((decide (0 < M 36 5) && decide (M 36 4 ≠ o)) || !allB v4 (fun k => !decide (M 40 k = t)))) → (M 36 5 - v4).toNat = fu → MW G mi_X12_lay (rmd 4 0 0) (MZ G (PQ (some (0, if isTh M o t then (if hadH M o t then -1 else M 36 5 + 1) else -1)) n K (if isTh M o t then (if hadH M o t then st2 M 36 12 3 else wasLay M o t) else st2 M 36 12 1)) 0 0) (0, 0) 39 [(0, (1, 36)), (1, (0, o)), (2, (0, t)), (3, (0, B v3)), (4, (0, v4))] [] n K (M) := by
        intro fu
        induction fu using Nat.strongRecOn with
        | ind fu ih39 =>
          intro v3 v4 h1 h2 hk39
          refine x_iload (dtk dt_X12_lay 22 (39, .iload 4, 2) rfl) rfl ?_
          refine x_aload_n (dtk dt_X12_lay 23 (41, .aload_n 0, 1) rfl) rfl ?_
          refine fg_X12_139 rfl (dtk dt_X12_lay 24 (42, .getfield 139, 3) rfl) (wk_36 hm.1) rfl ?_
          refine x_icmp_ge (tgt := 75) (dtk dt_X12_lay 25 (45, .if_icmp .ge 30, 3) rfl) (by decide) (fun c45 => ?_) (fun c45 => ?_)
          · skip
            have hd : v3 = hadH M o t := by (rw [h2, show v4 = M 36 5 by omega]; rfl)
            refine x_iload_n (dtk dt_X12_lay 40 (75, .iload_n 3, 1) rfl) rfl ?_
            refine x_if_eqB (tgt := 85) (dtk dt_X12_lay 41 (76, .ifCond .eq 9, 3) rfl) (by decide) (fun c76 => ?_) (fun c76 => ?_)
            · skip
              have hlt := hv.lt hm c6 (hd.symm.trans c76)
              refine x_aload_n (dtk dt_X12_lay 46 (85, .aload_n 0, 1) rfl) rfl ?_
              refine x_iload_n (dtk dt_X12_lay 47 (86, .iload_n 1, 1) rfl) rfl ?_
              refine fp_X12_19 rfl (dtk dt_X12_lay 48 (87, .putfield 19, 3) rfl) (wk_36 hm.1) ?_
              refine x_aload_n (dtk dt_X12_lay 49 (90, .aload_n 0, 1) rfl) rfl ?_
              refine fg_X12_23 rfl (dtk dt_X12_lay 50 (91, .getfield 23, 3) rfl) (wk_36 hm.1) (wm_36_6 (WF.fld 36 4 rfl hm.1)) ?_
              refine x_aload_n (dtk dt_X12_lay 51 (94, .aload_n 0, 1) rfl) rfl ?_
              refine fg_X12_139 rfl (dtk dt_X12_lay 52 (95, .getfield 139, 3) rfl) (wk_36 hm.1) (v := M 36 5) (by simp [st2]) ?_
              refine x_iload_n (dtk dt_X12_lay 53 (98, .iload_n 2, 1) rfl) rfl ?_
              refine x_iast (dtk dt_X12_lay 54 (99, .iastore, 1) rfl) (wk_40 hm.1) ⟨by omega, by omega⟩ ?_
              refine x_aload_n (dtk dt_X12_lay 55 (100, .aload_n 0, 1) rfl) rfl ?_
              refine x_dup rfl (dtk dt_X12_lay 56 (101, .dup, 1) rfl) ?_
              refine fg_X12_139 rfl (dtk dt_X12_lay 57 (102, .getfield 139, 3) rfl) (wk_36 hm.1) (v := M 36 5) (by simp [st2]) ?_
              refine x_iconst (v := 1) ⟨by decide, by decide⟩ (dtk dt_X12_lay 58 (105, .iconst 1, 1) rfl) ?_
              refine y_iadd (dtk dt_X12_lay 59 (106, .iadd, 1) rfl) ⟨by omega, by omega⟩ ?_
              refine fp_X12_139 rfl (dtk dt_X12_lay 60 (107, .putfield 139, 3) rfl) (wk_36 hm.1) ?_
              refine x_aload_n (dtk dt_X12_lay 61 (110, .aload_n 0, 1) rfl) rfl ?_
              refine x_aload_n (dtk dt_X12_lay 62 (111, .aload_n 0, 1) rfl) rfl ?_
              refine fg_X12_139 rfl (dtk dt_X12_lay 63 (112, .getfield 139, 3) rfl) (wk_36 hm.1) (v := M 36 5 + 1) (by simp [st2]) ?_
              refine kc_X12_97 rfl (dtk dt_X12_lay 64 (115, .invokevirtual 97, 3) rfl) (c_X12_done (G := G)  (WF.fld 36 5 rfl (WF.arr 40 rfl (WF.fld 36 4 rfl hm.1)))) rfl rfl (wk_36 hm.1) (fitR (by decide) (by decide)) (Nat.le_of_ble_eq_true rfl) (pqK ?_)
              exact r_i (dtk dt_X12_lay 65 (118, .ireturn, 1) rfl) rfl (by simp_all) (by rw [if_pos c6, ← hd, c76]; rfl)
            · skip
              refine x_aload_n (dtk dt_X12_lay 42 (79, .aload_n 0, 1) rfl) rfl ?_
              refine x_iconst (v := 3) ⟨by decide, by decide⟩ (dtk dt_X12_lay 43 (80, .iconst 3, 1) rfl) ?_
              refine kc_X12_89 rfl (dtk dt_X12_lay 44 (81, .invokevirtual 89, 3) rfl) (c_X12_refused (G := G)  hm.1) rfl rfl (wk_36 hm.1) (fitR (by decide) (by decide)) (Nat.le_of_ble_eq_true rfl) (pqK ?_)
              exact r_i (dtk dt_X12_lay 45 (84, .ireturn, 1) rfl) rfl (by simp_all) (by rw [if_pos c6, ← hd, c76]; rfl)
          · skip
            refine x_iload_n (dtk dt_X12_lay 26 (48, .iload_n 3, 1) rfl) rfl ?_
            refine x_if_neB (tgt := 63) (dtk dt_X12_lay 27 (49, .ifCond .ne 14, 3) rfl) (by decide) (fun c49 => ?_) (fun c49 => ?_)
            · skip
              refine x_iconst (v := 1) ⟨by decide, by decide⟩ (dtk dt_X12_lay 34 (63, .iconst 1, 1) rfl) ?_
              refine x_goto (tgt := 68) (dtk dt_X12_lay 35 (64, .goto 4, 3) rfl) (by decide) ?_
              refine x_istore_n (dtk dt_X12_lay 37 (68, .istore_n 3, 1) rfl) (by decide) ?_
              refine y_iinc (dtk dt_X12_lay 38 (69, .iinc 4 1, 3) rfl) rfl (by decide) ⟨by omega, by omega⟩ ?_
              refine x_goto (tgt := 39) (dtk dt_X12_lay 39 (72, .goto (-33), 3) rfl) (by decide) ?_
              refine MW.sub [2, 3, 4, 1, 0] rfl ?_
              exact ih39 _ (by omega) true _ (by omega) (by clear ih39; rw [allB_s (by omega), Bool.not_and, ← Bool.or_assoc, ← h2]; clear h2; simp_all) rfl
            · skip
              refine x_aload_n (dtk dt_X12_lay 28 (52, .aload_n 0, 1) rfl) rfl ?_
              refine fg_X12_23 rfl (dtk dt_X12_lay 29 (53, .getfield 23, 3) rfl) (wk_36 hm.1) (wm_36_6 hm.1) ?_
              refine x_iload (dtk dt_X12_lay 30 (56, .iload 4, 2) rfl) rfl ?_
              refine x_iald (dtk dt_X12_lay 31 (58, .iaload, 1) rfl) (wk_40 hm.1) ⟨by omega, by omega⟩ ?_
              refine x_iload_n (dtk dt_X12_lay 32 (59, .iload_n 2, 1) rfl) rfl ?_
              refine x_icmp_ne (tgt := 67) (dtk dt_X12_lay 33 (60, .if_icmp .ne 7, 3) rfl) (by decide) (fun c60 => ?_) (fun c60 => ?_)
              · skip
                refine x_iconst (v := 0) ⟨by decide, by decide⟩ (dtk dt_X12_lay 36 (67, .iconst 0, 1) rfl) ?_
                refine x_istore_n (dtk dt_X12_lay 37 (68, .istore_n 3, 1) rfl) (by decide) ?_
                refine y_iinc (dtk dt_X12_lay 38 (69, .iinc 4 1, 3) rfl) rfl (by decide) ⟨by omega, by omega⟩ ?_
                refine x_goto (tgt := 39) (dtk dt_X12_lay 39 (72, .goto (-33), 3) rfl) (by decide) ?_
                refine MW.sub [2, 3, 4, 1, 0] rfl ?_
                exact ih39 _ (by omega) false _ (by omega) (by clear ih39; rw [allB_s (by omega), Bool.not_and, ← Bool.or_assoc, ← h2]; clear h2; simp_all) rfl
              · skip
                refine x_iconst (v := 1) ⟨by decide, by decide⟩ (dtk dt_X12_lay 34 (63, .iconst 1, 1) rfl) ?_
                refine x_goto (tgt := 68) (dtk dt_X12_lay 35 (64, .goto 4, 3) rfl) (by decide) ?_
                refine x_istore_n (dtk dt_X12_lay 37 (68, .istore_n 3, 1) rfl) (by decide) ?_
                refine y_iinc (dtk dt_X12_lay 38 (69, .iinc 4 1, 3) rfl) rfl (by decide) ⟨by omega, by omega⟩ ?_
                refine x_goto (tgt := 39) (dtk dt_X12_lay 39 (72, .goto (-33), 3) rfl) (by decide) ?_
                refine MW.sub [2, 3, 4, 1, 0] rfl ?_
                exact ih39 _ (by omega) true _ (by omega) (by clear ih39; rw [allB_s (by omega), Bool.not_and, ← Bool.or_assoc, ← h2]; clear h2; simp_all) rfl
      refine MW.sub [2, 3, 4, 1, 0] rfl ?_
      exact L39 _ _ _ (by omega) (by rw [allB_0]; simp_all) rfl
    refine x_aload_n (dtk dt_X12_lay 9 (15, .aload_n 0, 1) rfl) rfl ?_
    refine fg_X12_139 rfl (dtk dt_X12_lay 10 (16, .getfield 139, 3) rfl) (wk_36 hm.1) rfl ?_
    refine x_if_le (tgt := 34) (dtk dt_X12_lay 11 (19, .ifCond .le 15, 3) rfl) (by decide) (fun c19 => ?_) (fun c19 => ?_)
    · skip
      refine x_iconst (v := 0) ⟨by decide, by decide⟩ (dtk dt_X12_lay 18 (34, .iconst 0, 1) rfl) ?_
      refine MW.sub [0, 1, 2] rfl ?_
      exact J35_4 false (by simp_all <;> omega)
    · skip
      refine x_aload_n (dtk dt_X12_lay 12 (22, .aload_n 0, 1) rfl) rfl ?_
      refine fg_X12_19 rfl (dtk dt_X12_lay 13 (23, .getfield 19, 3) rfl) (wk_36 hm.1) rfl ?_
      refine x_iload_n (dtk dt_X12_lay 14 (26, .iload_n 1, 1) rfl) rfl ?_
      refine x_icmp_eq (tgt := 34) (dtk dt_X12_lay 15 (27, .if_icmp .eq 7, 3) rfl) (by decide) (fun c27 => ?_) (fun c27 => ?_)
      · skip
        refine x_iconst (v := 0) ⟨by decide, by decide⟩ (dtk dt_X12_lay 18 (34, .iconst 0, 1) rfl) ?_
        refine MW.sub [0, 1, 2] rfl ?_
        exact J35_4 false (by simp_all <;> omega)
      · skip
        refine x_iconst (v := 1) ⟨by decide, by decide⟩ (dtk dt_X12_lay 16 (30, .iconst 1, 1) rfl) ?_
        refine x_goto (tgt := 35) (dtk dt_X12_lay 17 (31, .goto 4, 3) rfl) (by decide) ?_
        refine MW.sub [0, 1, 2] rfl ?_
        exact J35_4 true (by simp_all <;> omega)
  · skip
    refine x_aload_n (dtk dt_X12_lay 5 (9, .aload_n 0, 1) rfl) rfl ?_
    refine x_iconst (v := 1) ⟨by decide, by decide⟩ (dtk dt_X12_lay 6 (10, .iconst 1, 1) rfl) ?_
    refine kc_X12_89 rfl (dtk dt_X12_lay 7 (11, .invokevirtual 89, 3) rfl) (c_X12_refused (G := G)  hm.1) rfl rfl (wk_36 hm.1) (fitR (by decide) (by decide)) (Nat.le_of_ble_eq_true rfl) (pqK ?_)
    exact r_i (dtk dt_X12_lay 8 (14, .ireturn, 1) rfl) rfl (by simp_all) (by simp_all)
set_option maxRecDepth 100000 in
set_option maxHeartbeats 4000000 in
theorem c_X12_clear {G : GG} {n : Nat} {K : KK} {M : MM}  (hw : WF K M) : MC G mi_X12_clear 2 0 0 [(1, 36)] n K M (PQ (some (0, M 36 5)) n K (st2 (st2 M 36 5 0) 36 12 0)) := by
  refine MC.intro (lc := [(0, (1, 36))]) (by decide) rfl (by simp [Nat.ble]) (Nat.le_of_ble_eq_true rfl) rfl (fun hMR => ?_)
  refine x_aload_n (dtk dt_X12_clear 0 (0, .aload_n 0, 1) rfl) rfl ?_
  refine fg_X12_139 rfl (dtk dt_X12_clear 1 (1, .getfield 139, 3) rfl) (wk_36 hw) rfl ?_
  refine x_istore_n (dtk dt_X12_clear 2 (4, .istore_n 1, 1) rfl) (by decide) ?_
  refine x_aload_n (dtk dt_X12_clear 3 (5, .aload_n 0, 1) rfl) rfl ?_
  refine x_iconst (v := 0) ⟨by decide, by decide⟩ (dtk dt_X12_clear 4 (6, .iconst 0, 1) rfl) ?_
  refine fp_X12_139 rfl (dtk dt_X12_clear 5 (7, .putfield 139, 3) rfl) (wk_36 hw) ?_
  refine x_aload_n (dtk dt_X12_clear 6 (10, .aload_n 0, 1) rfl) rfl ?_
  refine x_iload_n (dtk dt_X12_clear 7 (11, .iload_n 1, 1) rfl) rfl ?_
  refine kc_X12_97 rfl (dtk dt_X12_clear 8 (12, .invokevirtual 97, 3) rfl) (c_X12_done (G := G)  (WF.fld 36 5 rfl hw)) rfl rfl (wk_36 hw) (fitR (by decide) (by decide)) (Nat.le_of_ble_eq_true rfl) (pqK ?_)
  exact r_i (dtk dt_X12_clear 9 (15, .ireturn, 1) rfl) rfl rfl rfl
set_option maxRecDepth 100000 in
set_option maxHeartbeats 4000000 in
theorem c_X12_lacking {G : GG} {n : Nat} {K : KK} {M : MM}  (hm : MO K M) (hv : HV M) (hp : 0 < M 36 5) : MC G mi_X12_lacking 1 0 0 [(1, 36)] n K M (PQ (some (0, lkR (M 36 5) (dM M (M 36 4)) (M 40) 0 0)) n K (M)) := by
  refine MC.intro (lc := [(0, (1, 36))]) (by decide) rfl (by simp [Nat.ble]) (Nat.le_of_ble_eq_true rfl) rfl (fun hMR => ?_)
  have hh := hv.1
  have h00 := hm.2.1
  have h01 := hv.2.1 hp
  have ho : 0 ≤ M 36 4 ∧ M 36 4 < 8 := by omega
  have hsz := hm.sz ho
  refine x_iconst (v := 0) ⟨by decide, by decide⟩ (dtk dt_X12_lacking 0 (0, .iconst 0, 1) rfl) ?_
  refine x_istore_n (dtk dt_X12_lacking 1 (1, .istore_n 1, 1) rfl) (by decide) ?_
  refine x_iconst (v := 0) ⟨by decide, by decide⟩ (dtk dt_X12_lacking 2 (2, .iconst 0, 1) rfl) ?_
  refine x_istore_n (dtk dt_X12_lacking 3 (3, .istore_n 2, 1) rfl) (by decide) ?_
  have L4 : ∀ (fu : Nat) (v1 : Int) (v2 : Int), (0 ≤ v2 ∧ v2 ≤ M 36 5) → (lkR (M 36 5) (dM M (M 36 4)) (M 40) v2 v1 = lkR (M 36 5) (dM M (M 36 4)) (M 40) 0 0) → (M 36 5 - v2).toNat = fu → MW G mi_X12_lacking (rmd 1 0 0) (MZ G (PQ (some (0, lkR (M 36 5) (dM M (M 36 4)) (M 40) 0 0)) n K (M)) 0 0) (0, 0) 4 [(0, (1, 36)), (1, (0, v1)), (2, (0, v2))] [] n K (M) := by
    intro fu
    induction fu using Nat.strongRecOn with
    | ind fu ih4 =>
      intro v1 v2 h1 h2 hk4
      refine x_iload_n (dtk dt_X12_lacking 4 (4, .iload_n 2, 1) rfl) rfl ?_
      refine x_aload_n (dtk dt_X12_lacking 5 (5, .aload_n 0, 1) rfl) rfl ?_
      refine fg_X12_139 rfl (dtk dt_X12_lacking 6 (6, .getfield 139, 3) rfl) (wk_36 hm.1) rfl ?_
      refine x_icmp_ge (tgt := 57) (dtk dt_X12_lacking 7 (9, .if_icmp .ge 48, 3) rfl) (by decide) (fun c9 => ?_) (fun c9 => ?_)
      · skip
        refine x_iconst (v := -1) ⟨by decide, by decide⟩ (dtk dt_X12_lacking 38 (57, .iconst (-1), 1) rfl) ?_
        exact r_i (dtk dt_X12_lacking 39 (58, .ireturn, 1) rfl) rfl (by rw [lkR_e (by omega)] at h2; exact h2) rfl
      · skip
        have hk := hv.2.2.1 v2 (by omega) (by omega)
        refine x_aload_n (dtk dt_X12_lacking 8 (12, .aload_n 0, 1) rfl) rfl ?_
        refine fg_X12_16 rfl (dtk dt_X12_lacking 9 (13, .getfield 16, 3) rfl) (wk_36 hm.1) (wm_36_3 hm.1) ?_
        refine x_bipush (v := 10) ⟨by decide, by decide⟩ (dtk dt_X12_lacking 10 (16, .bipush 10, 2) rfl) ?_
        refine x_aload_n (dtk dt_X12_lacking 11 (18, .aload_n 0, 1) rfl) rfl ?_
        refine fg_X12_19 rfl (dtk dt_X12_lacking 12 (19, .getfield 19, 3) rfl) (wk_36 hm.1) rfl ?_
        refine y_imul (dtk dt_X12_lacking 13 (22, .imul, 1) rfl) ⟨by omega, by omega⟩ ?_
        refine x_aload_n (dtk dt_X12_lacking 14 (23, .aload_n 0, 1) rfl) rfl ?_
        refine fg_X12_23 rfl (dtk dt_X12_lacking 15 (24, .getfield 23, 3) rfl) (wk_36 hm.1) (wm_36_6 hm.1) ?_
        refine x_iload_n (dtk dt_X12_lacking 16 (27, .iload_n 2, 1) rfl) rfl ?_
        refine x_iald (dtk dt_X12_lacking 17 (28, .iaload, 1) rfl) (wk_40 hm.1) ⟨by omega, by omega⟩ ?_
        refine y_iadd (dtk dt_X12_lacking 18 (29, .iadd, 1) rfl) ⟨by omega, by omega⟩ ?_
        refine x_iald (dtk dt_X12_lacking 19 (30, .iaload, 1) rfl) (wk_39 hm.1) ⟨by omega, by omega⟩ ?_
        refine x_iload_n (dtk dt_X12_lacking 20 (31, .iload_n 1, 1) rfl) rfl ?_
        refine x_iconst (v := -1) ⟨by decide, by decide⟩ (dtk dt_X12_lacking 21 (32, .iconst (-1), 1) rfl) ?_
        refine x_ixor (dtk dt_X12_lacking 22 (33, .ixor, 1) rfl) ?_
        refine x_iand (dtk dt_X12_lacking 23 (34, .iand, 1) rfl) ?_
        refine x_if_eq (tgt := 40) (dtk dt_X12_lacking 24 (35, .ifCond .eq 5, 3) rfl) (by decide) (fun c35 => ?_) (fun c35 => ?_)
        · skip
          refine x_iload_n (dtk dt_X12_lacking 27 (40, .iload_n 1, 1) rfl) rfl ?_
          refine x_iconst (v := 1) ⟨by decide, by decide⟩ (dtk dt_X12_lacking 28 (41, .iconst 1, 1) rfl) ?_
          refine x_aload_n (dtk dt_X12_lacking 29 (42, .aload_n 0, 1) rfl) rfl ?_
          refine fg_X12_23 rfl (dtk dt_X12_lacking 30 (43, .getfield 23, 3) rfl) (wk_36 hm.1) (wm_36_6 hm.1) ?_
          refine x_iload_n (dtk dt_X12_lacking 31 (46, .iload_n 2, 1) rfl) rfl ?_
          refine x_iald (dtk dt_X12_lacking 32 (47, .iaload, 1) rfl) (wk_40 hm.1) ⟨by omega, by omega⟩ ?_
          refine x_ishl (dtk dt_X12_lacking 33 (48, .ishl, 1) rfl) ?_
          refine x_ior (dtk dt_X12_lacking 34 (49, .ior, 1) rfl) ?_
          refine x_istore_n (dtk dt_X12_lacking 35 (50, .istore_n 1, 1) rfl) (by decide) ?_
          refine y_iinc (dtk dt_X12_lacking 36 (51, .iinc 2 1, 3) rfl) rfl (by decide) ⟨by omega, by omega⟩ ?_
          refine x_goto (tgt := 4) (dtk dt_X12_lacking 37 (54, .goto (-50), 3) rfl) (by decide) ?_
          refine MW.sub [2, 1, 0] rfl ?_
          exact ih4 _ (by omega) _ _ (by omega) (by rw [lkR_s (by omega)] at h2; unfold sub at h2; unfold dM at h2; rw [if_pos (by simp; exact c35)] at h2; exact h2) rfl
        · skip
          refine x_iload_n (dtk dt_X12_lacking 25 (38, .iload_n 2, 1) rfl) rfl ?_
          exact r_i (dtk dt_X12_lacking 26 (39, .ireturn, 1) rfl) rfl (by rw [lkR_s (by omega)] at h2; unfold sub at h2; unfold dM at h2; rw [if_neg (by simp; exact c35)] at h2; exact h2) rfl
  refine MW.sub [2, 1, 0] rfl ?_
  exact L4 _ _ _ (by omega) rfl rfl
set_option maxRecDepth 100000 in
set_option maxHeartbeats 4000000 in
theorem c_X12_isRowOut {G : GG} {n : Nat} {K : KK} {M : MM}  (hm : MO K M) (hv : HV M) : MC G mi_X12_isRowOut 2 0 0 [(1, 36)] n K M (PQ (some (0, B (decide (0 < M 36 5) && decide (M 36 5 = M 38 (M 36 4)) && decide (lkR (M 36 5) (dM M (M 36 4)) (M 40) 0 0 = -1)))) n K (M)) := by
  refine MC.intro (lc := [(0, (1, 36))]) (by decide) rfl (by simp [Nat.ble]) (Nat.le_of_ble_eq_true rfl) rfl (fun hMR => ?_)
  have hh := hv.1
  have h00 := hm.2.1
  refine x_aload_n (dtk dt_X12_isRowOut 0 (0, .aload_n 0, 1) rfl) rfl ?_
  refine fg_X12_139 rfl (dtk dt_X12_isRowOut 1 (1, .getfield 139, 3) rfl) (wk_36 hm.1) rfl ?_
  refine x_if_le (tgt := 35) (dtk dt_X12_isRowOut 2 (4, .ifCond .le 31, 3) rfl) (by decide) (fun c4 => ?_) (fun c4 => ?_)
  · skip
    refine x_iconst (v := 0) ⟨by decide, by decide⟩ (dtk dt_X12_isRowOut 17 (35, .iconst 0, 1) rfl) ?_
    exact r_b (b := false) (dtk dt_X12_isRowOut 18 (36, .ireturn, 1) rfl) rfl (by simp_all <;> omega) rfl
  · skip
    have h01 := hv.2.1 (by omega)
    refine x_aload_n (dtk dt_X12_isRowOut 3 (7, .aload_n 0, 1) rfl) rfl ?_
    refine fg_X12_139 rfl (dtk dt_X12_isRowOut 4 (8, .getfield 139, 3) rfl) (wk_36 hm.1) rfl ?_
    refine x_aload_n (dtk dt_X12_isRowOut 5 (11, .aload_n 0, 1) rfl) rfl ?_
    refine fg_X12_13 rfl (dtk dt_X12_isRowOut 6 (12, .getfield 13, 3) rfl) (wk_36 hm.1) (wm_36_2 hm.1) ?_
    refine x_aload_n (dtk dt_X12_isRowOut 7 (15, .aload_n 0, 1) rfl) rfl ?_
    refine fg_X12_19 rfl (dtk dt_X12_isRowOut 8 (16, .getfield 19, 3) rfl) (wk_36 hm.1) rfl ?_
    refine x_iald (dtk dt_X12_isRowOut 9 (19, .iaload, 1) rfl) (wk_38 hm.1) ⟨by omega, by omega⟩ ?_
    refine x_icmp_ne (tgt := 35) (dtk dt_X12_isRowOut 10 (20, .if_icmp .ne 15, 3) rfl) (by decide) (fun c20 => ?_) (fun c20 => ?_)
    · skip
      refine x_iconst (v := 0) ⟨by decide, by decide⟩ (dtk dt_X12_isRowOut 17 (35, .iconst 0, 1) rfl) ?_
      exact r_b (b := false) (dtk dt_X12_isRowOut 18 (36, .ireturn, 1) rfl) rfl (by simp_all <;> omega) rfl
    · skip
      refine x_aload_n (dtk dt_X12_isRowOut 11 (23, .aload_n 0, 1) rfl) rfl ?_
      refine kc_X12_249 rfl (dtk dt_X12_isRowOut 12 (24, .invokevirtual 249, 3) rfl) (c_X12_lacking (G := G)  hm hv (by omega)) rfl rfl (wk_36 hm.1) (fitR (by decide) (by decide)) (Nat.le_of_ble_eq_true rfl) (pqK ?_)
      refine x_iconst (v := -1) ⟨by decide, by decide⟩ (dtk dt_X12_isRowOut 13 (27, .iconst (-1), 1) rfl) ?_
      refine x_icmp_ne (tgt := 35) (dtk dt_X12_isRowOut 14 (28, .if_icmp .ne 7, 3) rfl) (by decide) (fun c28 => ?_) (fun c28 => ?_)
      · skip
        refine x_iconst (v := 0) ⟨by decide, by decide⟩ (dtk dt_X12_isRowOut 17 (35, .iconst 0, 1) rfl) ?_
        exact r_b (b := false) (dtk dt_X12_isRowOut 18 (36, .ireturn, 1) rfl) rfl (by simp_all <;> omega) rfl
      · skip
        refine x_iconst (v := 1) ⟨by decide, by decide⟩ (dtk dt_X12_isRowOut 15 (31, .iconst 1, 1) rfl) ?_
        refine x_goto (tgt := 36) (dtk dt_X12_isRowOut 16 (32, .goto 4, 3) rfl) (by decide) ?_
        exact r_b (b := true) (dtk dt_X12_isRowOut 18 (36, .ireturn, 1) rfl) rfl (by simp_all <;> omega) rfl
