/-! ===== the model: acts, hand, sheets ===== -/
set_option maxRecDepth 100000 in
set_option maxHeartbeats 4000000 in
theorem c_X12_ran {G : GG} {n : Nat} {K : KK} {M : MM} {b : Int} (hw : WF K M) (ht : 0 ≤ M 36 14 ∧ M 36 14 < 60) : MC G mi_X12_ran 1 0 0 [(1, 36), (0, b)] n K M (PQ none n K (ranM M b)) := by
  refine MC.intro (lc := [(0, (1, 36)), (1, (0, b))]) (by decide) rfl (by simp [Nat.ble]) (Nat.le_of_ble_eq_true rfl) rfl (fun hMR => ?_)
  refine x_aload_n (dtk dt_X12_ran 0 (0, .aload_n 0, 1) rfl) rfl ?_
  refine fg_X12_246 rfl (dtk dt_X12_ran 1 (1, .getfield 246, 3) rfl) (wk_36 hw) rfl ?_
  refine x_bipush (v := 60) ⟨by decide, by decide⟩ (dtk dt_X12_ran 2 (4, .bipush 60, 2) rfl) ?_
  refine x_icmp_ge (tgt := 19) (dtk dt_X12_ran 3 (6, .if_icmp .ge 13, 3) rfl) (by decide) (fun c6 => ?_) (fun c6 => ?_)
  · skip
    exact absurd c6 (by omega)
  · skip
    refine x_aload_n (dtk dt_X12_ran 4 (9, .aload_n 0, 1) rfl) rfl ?_
    refine fg_X12_38 rfl (dtk dt_X12_ran 5 (10, .getfield 38, 3) rfl) (wk_36 hw) (wm_36_13 hw) ?_
    refine x_aload_n (dtk dt_X12_ran 6 (13, .aload_n 0, 1) rfl) rfl ?_
    refine fg_X12_246 rfl (dtk dt_X12_ran 7 (14, .getfield 246, 3) rfl) (wk_36 hw) rfl ?_
    refine x_iload_n (dtk dt_X12_ran 8 (17, .iload_n 1, 1) rfl) rfl ?_
    refine x_iast (dtk dt_X12_ran 9 (18, .iastore, 1) rfl) (wk_45 hw) ⟨by omega, by omega⟩ ?_
    refine x_aload_n (dtk dt_X12_ran 10 (19, .aload_n 0, 1) rfl) rfl ?_
    refine x_dup rfl (dtk dt_X12_ran 11 (20, .dup, 1) rfl) ?_
    refine fg_X12_246 rfl (dtk dt_X12_ran 12 (21, .getfield 246, 3) rfl) (wk_36 hw) (v := M 36 14) (by simp [st2]) ?_
    refine x_iconst (v := 1) ⟨by decide, by decide⟩ (dtk dt_X12_ran 13 (24, .iconst 1, 1) rfl) ?_
    refine y_iadd (dtk dt_X12_ran 14 (25, .iadd, 1) rfl) ⟨by omega, by omega⟩ ?_
    refine fp_X12_246 rfl (dtk dt_X12_ran 15 (26, .putfield 246, 3) rfl) (wk_36 hw) ?_
    exact r_v (dtk dt_X12_ran 16 (29, .return_, 1) rfl) rfl rfl
set_option maxRecDepth 100000 in
set_option maxHeartbeats 4000000 in
theorem c_X12_stackLook {G : GG} {n : Nat} {K : KK} {M : MM} {o x : Int} {m : Int} {d : Int → Int} (hA : AT K M o m d) (ht : 0 ≤ M 36 14 ∧ M 36 14 ≤ 55) : MC G mi_X12_stackLook 3 0 0 [(1, 36), (0, o), (0, x)] n K M (PQ (some (0, wr (wr (x + prs m d) + 1))) n K (rnL M [20, 10])) := by
  refine MC.intro (lc := [(0, (1, 36)), (1, (0, o)), (2, (0, x))]) (by decide) rfl (by simp [Nat.ble]) (Nat.le_of_ble_eq_true rfl) rfl (fun hMR => ?_)
  refine x_aload_n (dtk dt_X12_stackLook 0 (0, .aload_n 0, 1) rfl) rfl ?_
  refine x_bipush (v := 20) ⟨by decide, by decide⟩ (dtk dt_X12_stackLook 1 (1, .bipush 20, 2) rfl) ?_
  refine kc_X12_263 rfl (dtk dt_X12_stackLook 2 (3, .invokevirtual 263, 3) rfl) (c_X12_ran (G := G)  (WF.rn hA.wf []) (by have hq := rnL_14 [] M; simp only [List.length_cons, List.length_nil, List.length_append] at hq; show 0 ≤ rnL M [] 36 14 ∧ rnL M [] 36 14 < 60; omega)) rfl rfl (wk_36 hA.wf) (fitR (by decide) (by decide)) (Nat.le_of_ble_eq_true rfl) (pqK ?_)
  refine x_aload_n (dtk dt_X12_stackLook 3 (6, .aload_n 0, 1) rfl) rfl ?_
  refine x_bipush (v := 10) ⟨by decide, by decide⟩ (dtk dt_X12_stackLook 4 (7, .bipush 10, 2) rfl) ?_
  refine kc_X12_263 rfl (dtk dt_X12_stackLook 5 (9, .invokevirtual 263, 3) rfl) (c_X12_ran (G := G)  (WF.rn hA.wf [20]) (by have hq := rnL_14 [20] M; simp only [List.length_cons, List.length_nil, List.length_append] at hq; show 0 ≤ rnL M [20] 36 14 ∧ rnL M [20] 36 14 < 60; omega)) rfl rfl (wk_36 hA.wf) (fitR (by decide) (by decide)) (Nat.le_of_ble_eq_true rfl) (pqK ?_)
  refine x_iload_n (dtk dt_X12_stackLook 6 (12, .iload_n 2, 1) rfl) rfl ?_
  refine x_aload_n (dtk dt_X12_stackLook 7 (13, .aload_n 0, 1) rfl) rfl ?_
  refine x_iload_n (dtk dt_X12_stackLook 8 (14, .iload_n 1, 1) rfl) rfl ?_
  refine kc_X12_228 rfl (dtk dt_X12_stackLook 9 (15, .invokevirtual 228, 3) rfl) (c_X12_pairsOf (G := G)  (hA.rn [20, 10])) rfl rfl (wk_36 hA.wf) (fitR (by decide) (by decide)) (Nat.le_of_ble_eq_true rfl) (pqK ?_)
  refine w_iadd (dtk dt_X12_stackLook 10 (18, .iadd, 1) rfl) ?_
  refine x_iconst (v := 1) ⟨by decide, by decide⟩ (dtk dt_X12_stackLook 11 (19, .iconst 1, 1) rfl) ?_
  refine w_iadd (dtk dt_X12_stackLook 12 (20, .iadd, 1) rfl) ?_
  exact r_i (dtk dt_X12_stackLook 13 (21, .ireturn, 1) rfl) rfl rfl rfl
set_option maxRecDepth 100000 in
set_option maxHeartbeats 4000000 in
theorem c_X12_look0 {G : GG} {n : Nat} {K : KK} {M : MM} {o x : Int} {m : Int} {d : Int → Int} (hA : AT K M o m d) (ht : 0 ≤ M 36 14 ∧ M 36 14 ≤ 50) : MC G mi_X12_look0 4 0 0 [(1, 36), (0, o), (0, x)] n K M (PQ (some (0, lookR (M 37 o) m (prs m d) x)) n K (rnL M (lookT (M 37 o)))) := by
  refine MC.intro (lc := [(0, (1, 36)), (1, (0, o)), (2, (0, x))]) (by decide) rfl (by simp [Nat.ble]) (Nat.le_of_ble_eq_true rfl) rfl (fun hMR => ?_)
  have ho := hA.2.1
  refine x_aload_n (dtk dt_X12_look0 0 (0, .aload_n 0, 1) rfl) rfl ?_
  refine fg_X12_7 rfl (dtk dt_X12_look0 1 (1, .getfield 7, 3) rfl) (wk_36 hA.wf) (wm_36_1 hA.wf) ?_
  refine x_iload_n (dtk dt_X12_look0 2 (4, .iload_n 1, 1) rfl) rfl ?_
  refine x_iald (dtk dt_X12_look0 3 (5, .iaload, 1) rfl) (wk_37 hA.wf) ⟨by omega, by omega⟩ ?_
  refine x_iconst (v := 5) ⟨by decide, by decide⟩ (dtk dt_X12_look0 4 (6, .iconst 5, 1) rfl) ?_
  refine x_icmp_ne (tgt := 25) (dtk dt_X12_look0 5 (7, .if_icmp .ne 18, 3) rfl) (by decide) (fun c7 => ?_) (fun c7 => ?_)
  · skip
    refine x_aload_n (dtk dt_X12_look0 16 (25, .aload_n 0, 1) rfl) rfl ?_
    refine x_iload_n (dtk dt_X12_look0 17 (26, .iload_n 1, 1) rfl) rfl ?_
    refine kc_X12_269 rfl (dtk dt_X12_look0 18 (27, .invokevirtual 269, 3) rfl) (c_X12_isStack (G := G)  hA.wf (by omega)) rfl rfl (wk_36 hA.wf) (fitR (by decide) (by decide)) (Nat.le_of_ble_eq_true rfl) (pqK ?_)
    refine x_if_eqB (tgt := 40) (dtk dt_X12_look0 19 (30, .ifCond .eq 10, 3) rfl) (by decide) (fun c30 => ?_) (fun c30 => ?_)
    · skip
      refine x_aload_n (dtk dt_X12_look0 25 (40, .aload_n 0, 1) rfl) rfl ?_
      refine fg_X12_7 rfl (dtk dt_X12_look0 26 (41, .getfield 7, 3) rfl) (wk_36 hA.wf) (wm_36_1 hA.wf) ?_
      refine x_iload_n (dtk dt_X12_look0 27 (44, .iload_n 1, 1) rfl) rfl ?_
      refine x_iald (dtk dt_X12_look0 28 (45, .iaload, 1) rfl) (wk_37 hA.wf) ⟨by omega, by omega⟩ ?_
      refine x_iconst (v := 4) ⟨by decide, by decide⟩ (dtk dt_X12_look0 29 (46, .iconst 4, 1) rfl) ?_
      refine x_icmp_ne (tgt := 56) (dtk dt_X12_look0 30 (47, .if_icmp .ne 9, 3) rfl) (by decide) (fun c47 => ?_) (fun c47 => ?_)
      · skip
        refine x_aload_n (dtk dt_X12_look0 34 (56, .aload_n 0, 1) rfl) rfl ?_
        refine x_bipush (v := 10) ⟨by decide, by decide⟩ (dtk dt_X12_look0 35 (57, .bipush 10, 2) rfl) ?_
        refine kc_X12_263 rfl (dtk dt_X12_look0 36 (59, .invokevirtual 263, 3) rfl) (c_X12_ran (G := G)  (by first | exact WF.rn hA.wf [50] | exact hA.wf) (by first | (show 0 ≤ rnL M [50] 36 14 ∧ rnL M [50] 36 14 < 60; rw [rnL_14]; simp; omega) | omega)) rfl rfl (wk_36 hA.wf) (fitR (by decide) (by decide)) (Nat.le_of_ble_eq_true rfl) (pqK ?_)
        refine x_aload_n (dtk dt_X12_look0 37 (62, .aload_n 0, 1) rfl) rfl ?_
        refine fg_X12_7 rfl (dtk dt_X12_look0 38 (63, .getfield 7, 3) rfl) (wk_36 hA.wf) (by first | exact wm_36_1 (WF.rn hA.wf [50, 10]) | exact wm_36_1 (WF.rn hA.wf [10])) ?_
        refine x_iload_n (dtk dt_X12_look0 39 (66, .iload_n 1, 1) rfl) rfl ?_
        refine x_iald (dtk dt_X12_look0 40 (67, .iaload, 1) rfl) (wk_37 hA.wf) ⟨by omega, by omega⟩ ?_
        try simp only [ranM_x (show (37 : Int) ≠ 36 ∧ (37 : Int) ≠ 45 by decide)]
        refine x_iconst (v := 4) ⟨by decide, by decide⟩ (dtk dt_X12_look0 41 (68, .iconst 4, 1) rfl) ?_
        refine x_icmp_ne (tgt := 83) (dtk dt_X12_look0 42 (69, .if_icmp .ne 14, 3) rfl) (by decide) (fun c69 => ?_) (fun c69 => ?_)
        · skip
          refine x_iload_n (dtk dt_X12_look0 50 (83, .iload_n 2, 1) rfl) rfl ?_
          refine x_aload_n (dtk dt_X12_look0 51 (84, .aload_n 0, 1) rfl) rfl ?_
          refine x_iload_n (dtk dt_X12_look0 52 (85, .iload_n 1, 1) rfl) rfl ?_
          refine kc_X12_228 rfl (dtk dt_X12_look0 53 (86, .invokevirtual 228, 3) rfl) (c_X12_pairsOf (G := G)  (by first | exact hA.rn [50, 10] | exact hA.rn [10])) rfl rfl (wk_36 hA.wf) (fitR (by decide) (by decide)) (Nat.le_of_ble_eq_true rfl) (pqK ?_)
          refine w_iadd (dtk dt_X12_look0 54 (89, .iadd, 1) rfl) ?_
          exact r_i (dtk dt_X12_look0 55 (90, .ireturn, 1) rfl) rfl (by unfold lookR; simp_all) (by unfold lookT; simp_all <;> rfl)
        · skip
          refine x_iload_n (dtk dt_X12_look0 43 (72, .iload_n 2, 1) rfl) rfl ?_
          refine x_aload_n (dtk dt_X12_look0 44 (73, .aload_n 0, 1) rfl) rfl ?_
          refine fg_X12_13 rfl (dtk dt_X12_look0 45 (74, .getfield 13, 3) rfl) (wk_36 hA.wf) (by first | exact wm_36_2 (WF.rn hA.wf [50, 10]) | exact wm_36_2 (WF.rn hA.wf [10])) ?_
          refine x_iload_n (dtk dt_X12_look0 46 (77, .iload_n 1, 1) rfl) rfl ?_
          refine x_iald (dtk dt_X12_look0 47 (78, .iaload, 1) rfl) (wk_38 hA.wf) ⟨by omega, by omega⟩ ?_
          try simp only [ranM_x (show (38 : Int) ≠ 36 ∧ (38 : Int) ≠ 45 by decide)]
          rw [hA.sz]
          refine w_isub (dtk dt_X12_look0 48 (79, .isub, 1) rfl) ?_
          refine x_goto (tgt := 84) (dtk dt_X12_look0 49 (80, .goto 4, 3) rfl) (by decide) ?_
          refine x_aload_n (dtk dt_X12_look0 51 (84, .aload_n 0, 1) rfl) rfl ?_
          refine x_iload_n (dtk dt_X12_look0 52 (85, .iload_n 1, 1) rfl) rfl ?_
          refine kc_X12_228 rfl (dtk dt_X12_look0 53 (86, .invokevirtual 228, 3) rfl) (c_X12_pairsOf (G := G)  (by first | exact hA.rn [50, 10] | exact hA.rn [10])) rfl rfl (wk_36 hA.wf) (fitR (by decide) (by decide)) (Nat.le_of_ble_eq_true rfl) (pqK ?_)
          refine w_iadd (dtk dt_X12_look0 54 (89, .iadd, 1) rfl) ?_
          exact r_i (dtk dt_X12_look0 55 (90, .ireturn, 1) rfl) rfl (by unfold lookR; simp_all) (by unfold lookT; simp_all <;> rfl)
      · skip
        refine x_aload_n (dtk dt_X12_look0 31 (50, .aload_n 0, 1) rfl) rfl ?_
        refine x_bipush (v := 50) ⟨by decide, by decide⟩ (dtk dt_X12_look0 32 (51, .bipush 50, 2) rfl) ?_
        refine kc_X12_263 rfl (dtk dt_X12_look0 33 (53, .invokevirtual 263, 3) rfl) (c_X12_ran (G := G)  (WF.rn hA.wf []) (by have hq := rnL_14 [] M; simp only [List.length_cons, List.length_nil, List.length_append] at hq; show 0 ≤ rnL M [] 36 14 ∧ rnL M [] 36 14 < 60; omega)) rfl rfl (wk_36 hA.wf) (fitR (by decide) (by decide)) (Nat.le_of_ble_eq_true rfl) (pqK ?_)
        refine x_aload_n (dtk dt_X12_look0 34 (56, .aload_n 0, 1) rfl) rfl ?_
        refine x_bipush (v := 10) ⟨by decide, by decide⟩ (dtk dt_X12_look0 35 (57, .bipush 10, 2) rfl) ?_
        refine kc_X12_263 rfl (dtk dt_X12_look0 36 (59, .invokevirtual 263, 3) rfl) (c_X12_ran (G := G)  (by first | exact WF.rn hA.wf [50] | exact hA.wf) (by first | (show 0 ≤ rnL M [50] 36 14 ∧ rnL M [50] 36 14 < 60; rw [rnL_14]; simp; omega) | omega)) rfl rfl (wk_36 hA.wf) (fitR (by decide) (by decide)) (Nat.le_of_ble_eq_true rfl) (pqK ?_)
        refine x_aload_n (dtk dt_X12_look0 37 (62, .aload_n 0, 1) rfl) rfl ?_
        refine fg_X12_7 rfl (dtk dt_X12_look0 38 (63, .getfield 7, 3) rfl) (wk_36 hA.wf) (by first | exact wm_36_1 (WF.rn hA.wf [50, 10]) | exact wm_36_1 (WF.rn hA.wf [10])) ?_
        refine x_iload_n (dtk dt_X12_look0 39 (66, .iload_n 1, 1) rfl) rfl ?_
        refine x_iald (dtk dt_X12_look0 40 (67, .iaload, 1) rfl) (wk_37 hA.wf) ⟨by omega, by omega⟩ ?_
        try simp only [ranM_x (show (37 : Int) ≠ 36 ∧ (37 : Int) ≠ 45 by decide)]
        refine x_iconst (v := 4) ⟨by decide, by decide⟩ (dtk dt_X12_look0 41 (68, .iconst 4, 1) rfl) ?_
        refine x_icmp_ne (tgt := 83) (dtk dt_X12_look0 42 (69, .if_icmp .ne 14, 3) rfl) (by decide) (fun c69 => ?_) (fun c69 => ?_)
        · skip
          refine x_iload_n (dtk dt_X12_look0 50 (83, .iload_n 2, 1) rfl) rfl ?_
          refine x_aload_n (dtk dt_X12_look0 51 (84, .aload_n 0, 1) rfl) rfl ?_
          refine x_iload_n (dtk dt_X12_look0 52 (85, .iload_n 1, 1) rfl) rfl ?_
          refine kc_X12_228 rfl (dtk dt_X12_look0 53 (86, .invokevirtual 228, 3) rfl) (c_X12_pairsOf (G := G)  (by first | exact hA.rn [50, 10] | exact hA.rn [10])) rfl rfl (wk_36 hA.wf) (fitR (by decide) (by decide)) (Nat.le_of_ble_eq_true rfl) (pqK ?_)
          refine w_iadd (dtk dt_X12_look0 54 (89, .iadd, 1) rfl) ?_
          exact r_i (dtk dt_X12_look0 55 (90, .ireturn, 1) rfl) rfl (by unfold lookR; simp_all) (by unfold lookT; simp_all <;> rfl)
        · skip
          refine x_iload_n (dtk dt_X12_look0 43 (72, .iload_n 2, 1) rfl) rfl ?_
          refine x_aload_n (dtk dt_X12_look0 44 (73, .aload_n 0, 1) rfl) rfl ?_
          refine fg_X12_13 rfl (dtk dt_X12_look0 45 (74, .getfield 13, 3) rfl) (wk_36 hA.wf) (by first | exact wm_36_2 (WF.rn hA.wf [50, 10]) | exact wm_36_2 (WF.rn hA.wf [10])) ?_
          refine x_iload_n (dtk dt_X12_look0 46 (77, .iload_n 1, 1) rfl) rfl ?_
          refine x_iald (dtk dt_X12_look0 47 (78, .iaload, 1) rfl) (wk_38 hA.wf) ⟨by omega, by omega⟩ ?_
          try simp only [ranM_x (show (38 : Int) ≠ 36 ∧ (38 : Int) ≠ 45 by decide)]
          rw [hA.sz]
          refine w_isub (dtk dt_X12_look0 48 (79, .isub, 1) rfl) ?_
          refine x_goto (tgt := 84) (dtk dt_X12_look0 49 (80, .goto 4, 3) rfl) (by decide) ?_
          refine x_aload_n (dtk dt_X12_look0 51 (84, .aload_n 0, 1) rfl) rfl ?_
          refine x_iload_n (dtk dt_X12_look0 52 (85, .iload_n 1, 1) rfl) rfl ?_
          refine kc_X12_228 rfl (dtk dt_X12_look0 53 (86, .invokevirtual 228, 3) rfl) (c_X12_pairsOf (G := G)  (by first | exact hA.rn [50, 10] | exact hA.rn [10])) rfl rfl (wk_36 hA.wf) (fitR (by decide) (by decide)) (Nat.le_of_ble_eq_true rfl) (pqK ?_)
          refine w_iadd (dtk dt_X12_look0 54 (89, .iadd, 1) rfl) ?_
          exact r_i (dtk dt_X12_look0 55 (90, .ireturn, 1) rfl) rfl (by unfold lookR; simp_all) (by unfold lookT; simp_all <;> rfl)
    · skip
      refine x_aload_n (dtk dt_X12_look0 20 (33, .aload_n 0, 1) rfl) rfl ?_
      refine x_iload_n (dtk dt_X12_look0 21 (34, .iload_n 1, 1) rfl) rfl ?_
      refine x_iload_n (dtk dt_X12_look0 22 (35, .iload_n 2, 1) rfl) rfl ?_
      refine kc_X12_266 rfl (dtk dt_X12_look0 23 (36, .invokevirtual 266, 3) rfl) (c_X12_stackLook (G := G)  hA (by omega)) rfl rfl (wk_36 hA.wf) (fitR (by decide) (by decide)) (Nat.le_of_ble_eq_true rfl) (pqK ?_)
      exact r_i (dtk dt_X12_look0 24 (39, .ireturn, 1) rfl) rfl (by unfold lookR; simp_all) (by unfold lookT; simp_all)
  · skip
    refine x_aload_n (dtk dt_X12_look0 6 (10, .aload_n 0, 1) rfl) rfl ?_
    refine x_bipush (v := 61) ⟨by decide, by decide⟩ (dtk dt_X12_look0 7 (11, .bipush 61, 2) rfl) ?_
    refine kc_X12_263 rfl (dtk dt_X12_look0 8 (13, .invokevirtual 263, 3) rfl) (c_X12_ran (G := G)  (WF.rn hA.wf []) (by have hq := rnL_14 [] M; simp only [List.length_cons, List.length_nil, List.length_append] at hq; show 0 ≤ rnL M [] 36 14 ∧ rnL M [] 36 14 < 60; omega)) rfl rfl (wk_36 hA.wf) (fitR (by decide) (by decide)) (Nat.le_of_ble_eq_true rfl) (pqK ?_)
    refine x_aload_n (dtk dt_X12_look0 9 (16, .aload_n 0, 1) rfl) rfl ?_
    refine x_iload_n (dtk dt_X12_look0 10 (17, .iload_n 1, 1) rfl) rfl ?_
    refine x_iload_n (dtk dt_X12_look0 11 (18, .iload_n 2, 1) rfl) rfl ?_
    refine kc_X12_266 rfl (dtk dt_X12_look0 12 (19, .invokevirtual 266, 3) rfl) (c_X12_stackLook (G := G)  (hA.rn [61]) (by have hq := rnL_14 [61] M; simp only [List.length_cons, List.length_nil, List.length_append] at hq; show 0 ≤ rnL M [61] 36 14 ∧ rnL M [61] 36 14 ≤ 55; omega)) rfl rfl (wk_36 hA.wf) (fitR (by decide) (by decide)) (Nat.le_of_ble_eq_true rfl) (pqK ?_)
    refine x_iconst (v := 2) ⟨by decide, by decide⟩ (dtk dt_X12_look0 13 (22, .iconst 2, 1) rfl) ?_
    refine w_imul (dtk dt_X12_look0 14 (23, .imul, 1) rfl) ?_
    exact r_i (dtk dt_X12_look0 15 (24, .ireturn, 1) rfl) rfl (by unfold lookR; simp_all) (by unfold lookT; rw [if_pos (by omega)]; rfl)
set_option maxRecDepth 100000 in
set_option maxHeartbeats 4000000 in
theorem c_X12_part0 {G : GG} {n : Nat} {K : KK} {M : MM} {o x : Int} {m : Int} {d : Int → Int} (hA : AT K M o m d) (ht : 0 ≤ M 36 14 ∧ M 36 14 ≤ 45) : MC G mi_X12_part0 5 0 0 [(1, 36), (0, o), (0, x)] n K M (PQ (some (0, partR (M 37 o) m (prs m d) x)) n K (rnL M (partT (M 37 o)))) := by
  refine MC.intro (lc := [(0, (1, 36)), (1, (0, o)), (2, (0, x))]) (by decide) rfl (by simp [Nat.ble]) (Nat.le_of_ble_eq_true rfl) rfl (fun hMR => ?_)
  have ho := hA.2.1
  refine x_aload_n (dtk dt_X12_part0 0 (0, .aload_n 0, 1) rfl) rfl ?_
  refine fg_X12_7 rfl (dtk dt_X12_part0 1 (1, .getfield 7, 3) rfl) (wk_36 hA.wf) (wm_36_1 hA.wf) ?_
  refine x_iload_n (dtk dt_X12_part0 2 (4, .iload_n 1, 1) rfl) rfl ?_
  refine x_iald (dtk dt_X12_part0 3 (5, .iaload, 1) rfl) (wk_37 hA.wf) ⟨by omega, by omega⟩ ?_
  refine x_iconst (v := 3) ⟨by decide, by decide⟩ (dtk dt_X12_part0 4 (6, .iconst 3, 1) rfl) ?_
  refine x_icmp_ne (tgt := 16) (dtk dt_X12_part0 5 (7, .if_icmp .ne 9, 3) rfl) (by decide) (fun c7 => ?_) (fun c7 => ?_)
  · skip
    refine x_aload_n (dtk dt_X12_part0 9 (16, .aload_n 0, 1) rfl) rfl ?_
    refine fg_X12_7 rfl (dtk dt_X12_part0 10 (17, .getfield 7, 3) rfl) (wk_36 hA.wf) (by first | exact wm_36_1 (AT.wf (hA.rn [40])) | exact wm_36_1 (AT.wf (hA.rn []))) ?_
    refine x_iload_n (dtk dt_X12_part0 11 (20, .iload_n 1, 1) rfl) rfl ?_
    refine x_iald (dtk dt_X12_part0 12 (21, .iaload, 1) rfl) (wk_37 hA.wf) ⟨by omega, by omega⟩ ?_
    try simp only [ranM_x (show (37 : Int) ≠ 36 ∧ (37 : Int) ≠ 45 by decide), rnL_x (show (37 : Int) ≠ 36 ∧ (37 : Int) ≠ 45 by decide)]
    refine x_iconst (v := 5) ⟨by decide, by decide⟩ (dtk dt_X12_part0 13 (22, .iconst 5, 1) rfl) ?_
    refine x_icmp_ne (tgt := 32) (dtk dt_X12_part0 14 (23, .if_icmp .ne 9, 3) rfl) (by decide) (fun c23 => ?_) (fun c23 => ?_)
    · skip
      refine x_aload_n (dtk dt_X12_part0 18 (32, .aload_n 0, 1) rfl) rfl ?_
      refine x_bipush (v := 11) ⟨by decide, by decide⟩ (dtk dt_X12_part0 19 (33, .bipush 11, 2) rfl) ?_
      refine kc_X12_263 rfl (dtk dt_X12_part0 20 (35, .invokevirtual 263, 3) rfl) (c_X12_ran (G := G)  (by first | exact id (AT.wf (hA.rn [40, 60])) | exact id (AT.wf (hA.rn [40])) | exact id (AT.wf (hA.rn [60])) | exact id (AT.wf (hA.rn []))) (by first | (show 0 ≤ rnL M [40, 60] 36 14 ∧ rnL M [40, 60] 36 14 < 60; rw [rnL_14]; simp; omega) | (show 0 ≤ rnL M [40] 36 14 ∧ rnL M [40] 36 14 < 60; rw [rnL_14]; simp; omega) | (show 0 ≤ rnL M [60] 36 14 ∧ rnL M [60] 36 14 < 60; rw [rnL_14]; simp; omega) | (show 0 ≤ rnL M [] 36 14 ∧ rnL M [] 36 14 < 60; rw [rnL_14]; simp; omega))) rfl rfl (wk_36 hA.wf) (fitR (by decide) (by decide)) (Nat.le_of_ble_eq_true rfl) (pqK ?_)
      refine x_aload_n (dtk dt_X12_part0 21 (38, .aload_n 0, 1) rfl) rfl ?_
      refine x_iload_n (dtk dt_X12_part0 22 (39, .iload_n 1, 1) rfl) rfl ?_
      refine x_aload_n (dtk dt_X12_part0 23 (40, .aload_n 0, 1) rfl) rfl ?_
      refine fg_X12_7 rfl (dtk dt_X12_part0 24 (41, .getfield 7, 3) rfl) (wk_36 hA.wf) (by first | exact wm_36_1 (AT.wf (hA.rn [40, 60, 11])) | exact wm_36_1 (AT.wf (hA.rn [40, 11])) | exact wm_36_1 (AT.wf (hA.rn [60, 11])) | exact wm_36_1 (AT.wf (hA.rn [11]))) ?_
      refine x_iload_n (dtk dt_X12_part0 25 (44, .iload_n 1, 1) rfl) rfl ?_
      refine x_iald (dtk dt_X12_part0 26 (45, .iaload, 1) rfl) (wk_37 hA.wf) ⟨by omega, by omega⟩ ?_
      try simp only [ranM_x (show (37 : Int) ≠ 36 ∧ (37 : Int) ≠ 45 by decide), rnL_x (show (37 : Int) ≠ 36 ∧ (37 : Int) ≠ 45 by decide)]
      refine x_iconst (v := 5) ⟨by decide, by decide⟩ (dtk dt_X12_part0 27 (46, .iconst 5, 1) rfl) ?_
      refine x_icmp_ne (tgt := 56) (dtk dt_X12_part0 28 (47, .if_icmp .ne 9, 3) rfl) (by decide) (fun c47 => ?_) (fun c47 => ?_)
      · skip
        refine x_iload_n (dtk dt_X12_part0 33 (56, .iload_n 2, 1) rfl) rfl ?_
        refine kc_X12_272 rfl (dtk dt_X12_part0 34 (57, .invokevirtual 272, 3) rfl) (c_X12_look0 (G := G)  (by first | exact hA.rn [40, 60, 11] | exact hA.rn [40, 11] | exact hA.rn [60, 11] | exact hA.rn [11]) (by first | (show 0 ≤ rnL M [40, 60, 11] 36 14 ∧ rnL M [40, 60, 11] 36 14 ≤ 50; rw [rnL_14]; simp; omega) | (show 0 ≤ rnL M [40, 11] 36 14 ∧ rnL M [40, 11] 36 14 ≤ 50; rw [rnL_14]; simp; omega) | (show 0 ≤ rnL M [60, 11] 36 14 ∧ rnL M [60, 11] 36 14 ≤ 50; rw [rnL_14]; simp; omega) | (show 0 ≤ rnL M [11] 36 14 ∧ rnL M [11] 36 14 ≤ 50; rw [rnL_14]; simp; omega))) rfl rfl (wk_36 hA.wf) (fitR (by decide) (by decide)) (Nat.le_of_ble_eq_true rfl) (pqK ?_)
        try simp only [ranM_x (show (37 : Int) ≠ 36 ∧ (37 : Int) ≠ 45 by decide), rnL_x (show (37 : Int) ≠ 36 ∧ (37 : Int) ≠ 45 by decide)]
        refine x_aload_n (dtk dt_X12_part0 35 (60, .aload_n 0, 1) rfl) rfl ?_
        refine fg_X12_13 rfl (dtk dt_X12_part0 36 (61, .getfield 13, 3) rfl) (wk_36 hA.wf) (by first | exact wm_36_2 (AT.wf ((by have q := hA.rn ([40, 60, 11] ++ (lookT (M 37 o))); rw [← rnL_app] at q; exact q))) | exact wm_36_2 (AT.wf ((by have q := hA.rn ([40, 11] ++ (lookT (M 37 o))); rw [← rnL_app] at q; exact q))) | exact wm_36_2 (AT.wf ((by have q := hA.rn ([60, 11] ++ (lookT (M 37 o))); rw [← rnL_app] at q; exact q))) | exact wm_36_2 (AT.wf ((by have q := hA.rn ([11] ++ (lookT (M 37 o))); rw [← rnL_app] at q; exact q)))) ?_
        refine x_iload_n (dtk dt_X12_part0 37 (64, .iload_n 1, 1) rfl) rfl ?_
        refine x_iald (dtk dt_X12_part0 38 (65, .iaload, 1) rfl) (wk_38 hA.wf) ⟨by omega, by omega⟩ ?_
        try simp only [ranM_x (show (38 : Int) ≠ 36 ∧ (38 : Int) ≠ 45 by decide), rnL_x (show (38 : Int) ≠ 36 ∧ (38 : Int) ≠ 45 by decide)]
        rw [hA.sz]
        refine w_imul (dtk dt_X12_part0 39 (66, .imul, 1) rfl) ?_
        refine x_istore_n (dtk dt_X12_part0 40 (67, .istore_n 3, 1) rfl) (by decide) ?_
        refine x_aload_n (dtk dt_X12_part0 41 (68, .aload_n 0, 1) rfl) rfl ?_
        refine fg_X12_7 rfl (dtk dt_X12_part0 42 (69, .getfield 7, 3) rfl) (wk_36 hA.wf) (by first | exact wm_36_1 (AT.wf ((by have q := hA.rn ([40, 60, 11] ++ (lookT (M 37 o))); rw [← rnL_app] at q; exact q))) | exact wm_36_1 (AT.wf ((by have q := hA.rn ([40, 11] ++ (lookT (M 37 o))); rw [← rnL_app] at q; exact q))) | exact wm_36_1 (AT.wf ((by have q := hA.rn ([60, 11] ++ (lookT (M 37 o))); rw [← rnL_app] at q; exact q))) | exact wm_36_1 (AT.wf ((by have q := hA.rn ([11] ++ (lookT (M 37 o))); rw [← rnL_app] at q; exact q)))) ?_
        refine x_iload_n (dtk dt_X12_part0 43 (72, .iload_n 1, 1) rfl) rfl ?_
        refine x_iald (dtk dt_X12_part0 44 (73, .iaload, 1) rfl) (wk_37 hA.wf) ⟨by omega, by omega⟩ ?_
        try simp only [ranM_x (show (37 : Int) ≠ 36 ∧ (37 : Int) ≠ 45 by decide), rnL_x (show (37 : Int) ≠ 36 ∧ (37 : Int) ≠ 45 by decide)]
        refine x_iconst (v := 3) ⟨by decide, by decide⟩ (dtk dt_X12_part0 45 (74, .iconst 3, 1) rfl) ?_
        refine x_icmp_ne (tgt := 88) (dtk dt_X12_part0 46 (75, .if_icmp .ne 13, 3) rfl) (by decide) (fun c75 => ?_) (fun c75 => ?_)
        · skip
          refine x_iload_n (dtk dt_X12_part0 53 (88, .iload_n 3, 1) rfl) rfl ?_
          exact r_i (dtk dt_X12_part0 54 (89, .ireturn, 1) rfl) rfl (by unfold partR; simp_all) (by unfold partT; simp_all [← rnL_app] <;> rfl)
        · skip
          refine x_iload_n (dtk dt_X12_part0 47 (78, .iload_n 3, 1) rfl) rfl ?_
          refine x_aload_n (dtk dt_X12_part0 48 (79, .aload_n 0, 1) rfl) rfl ?_
          refine x_iload_n (dtk dt_X12_part0 49 (80, .iload_n 1, 1) rfl) rfl ?_
          refine kc_X12_228 rfl (dtk dt_X12_part0 50 (81, .invokevirtual 228, 3) rfl) (c_X12_pairsOf (G := G)  (by first | exact (by have q := hA.rn ([40, 60, 11] ++ (lookT (M 37 o))); rw [← rnL_app] at q; exact q) | exact (by have q := hA.rn ([40, 11] ++ (lookT (M 37 o))); rw [← rnL_app] at q; exact q) | exact (by have q := hA.rn ([60, 11] ++ (lookT (M 37 o))); rw [← rnL_app] at q; exact q) | exact (by have q := hA.rn ([11] ++ (lookT (M 37 o))); rw [← rnL_app] at q; exact q))) rfl rfl (wk_36 hA.wf) (fitR (by decide) (by decide)) (Nat.le_of_ble_eq_true rfl) (pqK ?_)
          refine w_isub (dtk dt_X12_part0 51 (84, .isub, 1) rfl) ?_
          refine x_goto (tgt := 89) (dtk dt_X12_part0 52 (85, .goto 4, 3) rfl) (by decide) ?_
          exact r_i (dtk dt_X12_part0 54 (89, .ireturn, 1) rfl) rfl (by unfold partR; simp_all) (by unfold partT; simp_all [← rnL_app] <;> rfl)
      · skip
        refine x_iload_n (dtk dt_X12_part0 29 (50, .iload_n 2, 1) rfl) rfl ?_
        refine x_iconst (v := 2) ⟨by decide, by decide⟩ (dtk dt_X12_part0 30 (51, .iconst 2, 1) rfl) ?_
        refine w_iadd (dtk dt_X12_part0 31 (52, .iadd, 1) rfl) ?_
        refine x_goto (tgt := 57) (dtk dt_X12_part0 32 (53, .goto 4, 3) rfl) (by decide) ?_
        refine kc_X12_272 rfl (dtk dt_X12_part0 34 (57, .invokevirtual 272, 3) rfl) (c_X12_look0 (G := G)  (by first | exact hA.rn [40, 60, 11] | exact hA.rn [40, 11] | exact hA.rn [60, 11] | exact hA.rn [11]) (by first | (show 0 ≤ rnL M [40, 60, 11] 36 14 ∧ rnL M [40, 60, 11] 36 14 ≤ 50; rw [rnL_14]; simp; omega) | (show 0 ≤ rnL M [40, 11] 36 14 ∧ rnL M [40, 11] 36 14 ≤ 50; rw [rnL_14]; simp; omega) | (show 0 ≤ rnL M [60, 11] 36 14 ∧ rnL M [60, 11] 36 14 ≤ 50; rw [rnL_14]; simp; omega) | (show 0 ≤ rnL M [11] 36 14 ∧ rnL M [11] 36 14 ≤ 50; rw [rnL_14]; simp; omega))) rfl rfl (wk_36 hA.wf) (fitR (by decide) (by decide)) (Nat.le_of_ble_eq_true rfl) (pqK ?_)
        try simp only [ranM_x (show (37 : Int) ≠ 36 ∧ (37 : Int) ≠ 45 by decide), rnL_x (show (37 : Int) ≠ 36 ∧ (37 : Int) ≠ 45 by decide)]
        refine x_aload_n (dtk dt_X12_part0 35 (60, .aload_n 0, 1) rfl) rfl ?_
        refine fg_X12_13 rfl (dtk dt_X12_part0 36 (61, .getfield 13, 3) rfl) (wk_36 hA.wf) (by first | exact wm_36_2 (AT.wf ((by have q := hA.rn ([40, 60, 11] ++ (lookT (M 37 o))); rw [← rnL_app] at q; exact q))) | exact wm_36_2 (AT.wf ((by have q := hA.rn ([40, 11] ++ (lookT (M 37 o))); rw [← rnL_app] at q; exact q))) | exact wm_36_2 (AT.wf ((by have q := hA.rn ([60, 11] ++ (lookT (M 37 o))); rw [← rnL_app] at q; exact q))) | exact wm_36_2 (AT.wf ((by have q := hA.rn ([11] ++ (lookT (M 37 o))); rw [← rnL_app] at q; exact q)))) ?_
        refine x_iload_n (dtk dt_X12_part0 37 (64, .iload_n 1, 1) rfl) rfl ?_
        refine x_iald (dtk dt_X12_part0 38 (65, .iaload, 1) rfl) (wk_38 hA.wf) ⟨by omega, by omega⟩ ?_
        try simp only [ranM_x (show (38 : Int) ≠ 36 ∧ (38 : Int) ≠ 45 by decide), rnL_x (show (38 : Int) ≠ 36 ∧ (38 : Int) ≠ 45 by decide)]
        rw [hA.sz]
        refine w_imul (dtk dt_X12_part0 39 (66, .imul, 1) rfl) ?_
        refine x_istore_n (dtk dt_X12_part0 40 (67, .istore_n 3, 1) rfl) (by decide) ?_
        refine x_aload_n (dtk dt_X12_part0 41 (68, .aload_n 0, 1) rfl) rfl ?_
        refine fg_X12_7 rfl (dtk dt_X12_part0 42 (69, .getfield 7, 3) rfl) (wk_36 hA.wf) (by first | exact wm_36_1 (AT.wf ((by have q := hA.rn ([40, 60, 11] ++ (lookT (M 37 o))); rw [← rnL_app] at q; exact q))) | exact wm_36_1 (AT.wf ((by have q := hA.rn ([40, 11] ++ (lookT (M 37 o))); rw [← rnL_app] at q; exact q))) | exact wm_36_1 (AT.wf ((by have q := hA.rn ([60, 11] ++ (lookT (M 37 o))); rw [← rnL_app] at q; exact q))) | exact wm_36_1 (AT.wf ((by have q := hA.rn ([11] ++ (lookT (M 37 o))); rw [← rnL_app] at q; exact q)))) ?_
        refine x_iload_n (dtk dt_X12_part0 43 (72, .iload_n 1, 1) rfl) rfl ?_
        refine x_iald (dtk dt_X12_part0 44 (73, .iaload, 1) rfl) (wk_37 hA.wf) ⟨by omega, by omega⟩ ?_
        try simp only [ranM_x (show (37 : Int) ≠ 36 ∧ (37 : Int) ≠ 45 by decide), rnL_x (show (37 : Int) ≠ 36 ∧ (37 : Int) ≠ 45 by decide)]
        refine x_iconst (v := 3) ⟨by decide, by decide⟩ (dtk dt_X12_part0 45 (74, .iconst 3, 1) rfl) ?_
        refine x_icmp_ne (tgt := 88) (dtk dt_X12_part0 46 (75, .if_icmp .ne 13, 3) rfl) (by decide) (fun c75 => ?_) (fun c75 => ?_)
        · skip
          refine x_iload_n (dtk dt_X12_part0 53 (88, .iload_n 3, 1) rfl) rfl ?_
          exact r_i (dtk dt_X12_part0 54 (89, .ireturn, 1) rfl) rfl (by unfold partR; simp_all) (by unfold partT; simp_all [← rnL_app] <;> rfl)
        · skip
          refine x_iload_n (dtk dt_X12_part0 47 (78, .iload_n 3, 1) rfl) rfl ?_
          refine x_aload_n (dtk dt_X12_part0 48 (79, .aload_n 0, 1) rfl) rfl ?_
          refine x_iload_n (dtk dt_X12_part0 49 (80, .iload_n 1, 1) rfl) rfl ?_
          refine kc_X12_228 rfl (dtk dt_X12_part0 50 (81, .invokevirtual 228, 3) rfl) (c_X12_pairsOf (G := G)  (by first | exact (by have q := hA.rn ([40, 60, 11] ++ (lookT (M 37 o))); rw [← rnL_app] at q; exact q) | exact (by have q := hA.rn ([40, 11] ++ (lookT (M 37 o))); rw [← rnL_app] at q; exact q) | exact (by have q := hA.rn ([60, 11] ++ (lookT (M 37 o))); rw [← rnL_app] at q; exact q) | exact (by have q := hA.rn ([11] ++ (lookT (M 37 o))); rw [← rnL_app] at q; exact q))) rfl rfl (wk_36 hA.wf) (fitR (by decide) (by decide)) (Nat.le_of_ble_eq_true rfl) (pqK ?_)
          refine w_isub (dtk dt_X12_part0 51 (84, .isub, 1) rfl) ?_
          refine x_goto (tgt := 89) (dtk dt_X12_part0 52 (85, .goto 4, 3) rfl) (by decide) ?_
          exact r_i (dtk dt_X12_part0 54 (89, .ireturn, 1) rfl) rfl (by unfold partR; simp_all) (by unfold partT; simp_all [← rnL_app] <;> rfl)
    · skip
      refine x_aload_n (dtk dt_X12_part0 15 (26, .aload_n 0, 1) rfl) rfl ?_
      refine x_bipush (v := 60) ⟨by decide, by decide⟩ (dtk dt_X12_part0 16 (27, .bipush 60, 2) rfl) ?_
      refine kc_X12_263 rfl (dtk dt_X12_part0 17 (29, .invokevirtual 263, 3) rfl) (c_X12_ran (G := G)  (by first | exact id (AT.wf (hA.rn [40])) | exact id (AT.wf (hA.rn []))) (by first | (show 0 ≤ rnL M [40] 36 14 ∧ rnL M [40] 36 14 < 60; rw [rnL_14]; simp; omega) | (show 0 ≤ rnL M [] 36 14 ∧ rnL M [] 36 14 < 60; rw [rnL_14]; simp; omega))) rfl rfl (wk_36 hA.wf) (fitR (by decide) (by decide)) (Nat.le_of_ble_eq_true rfl) (pqK ?_)
      refine x_aload_n (dtk dt_X12_part0 18 (32, .aload_n 0, 1) rfl) rfl ?_
      refine x_bipush (v := 11) ⟨by decide, by decide⟩ (dtk dt_X12_part0 19 (33, .bipush 11, 2) rfl) ?_
      refine kc_X12_263 rfl (dtk dt_X12_part0 20 (35, .invokevirtual 263, 3) rfl) (c_X12_ran (G := G)  (by first | exact id (AT.wf (hA.rn [40, 60])) | exact id (AT.wf (hA.rn [40])) | exact id (AT.wf (hA.rn [60])) | exact id (AT.wf (hA.rn []))) (by first | (show 0 ≤ rnL M [40, 60] 36 14 ∧ rnL M [40, 60] 36 14 < 60; rw [rnL_14]; simp; omega) | (show 0 ≤ rnL M [40] 36 14 ∧ rnL M [40] 36 14 < 60; rw [rnL_14]; simp; omega) | (show 0 ≤ rnL M [60] 36 14 ∧ rnL M [60] 36 14 < 60; rw [rnL_14]; simp; omega) | (show 0 ≤ rnL M [] 36 14 ∧ rnL M [] 36 14 < 60; rw [rnL_14]; simp; omega))) rfl rfl (wk_36 hA.wf) (fitR (by decide) (by decide)) (Nat.le_of_ble_eq_true rfl) (pqK ?_)
      refine x_aload_n (dtk dt_X12_part0 21 (38, .aload_n 0, 1) rfl) rfl ?_
      refine x_iload_n (dtk dt_X12_part0 22 (39, .iload_n 1, 1) rfl) rfl ?_
      refine x_aload_n (dtk dt_X12_part0 23 (40, .aload_n 0, 1) rfl) rfl ?_
      refine fg_X12_7 rfl (dtk dt_X12_part0 24 (41, .getfield 7, 3) rfl) (wk_36 hA.wf) (by first | exact wm_36_1 (AT.wf (hA.rn [40, 60, 11])) | exact wm_36_1 (AT.wf (hA.rn [40, 11])) | exact wm_36_1 (AT.wf (hA.rn [60, 11])) | exact wm_36_1 (AT.wf (hA.rn [11]))) ?_
      refine x_iload_n (dtk dt_X12_part0 25 (44, .iload_n 1, 1) rfl) rfl ?_
      refine x_iald (dtk dt_X12_part0 26 (45, .iaload, 1) rfl) (wk_37 hA.wf) ⟨by omega, by omega⟩ ?_
      try simp only [ranM_x (show (37 : Int) ≠ 36 ∧ (37 : Int) ≠ 45 by decide), rnL_x (show (37 : Int) ≠ 36 ∧ (37 : Int) ≠ 45 by decide)]
      refine x_iconst (v := 5) ⟨by decide, by decide⟩ (dtk dt_X12_part0 27 (46, .iconst 5, 1) rfl) ?_
      refine x_icmp_ne (tgt := 56) (dtk dt_X12_part0 28 (47, .if_icmp .ne 9, 3) rfl) (by decide) (fun c47 => ?_) (fun c47 => ?_)
      · skip
        refine x_iload_n (dtk dt_X12_part0 33 (56, .iload_n 2, 1) rfl) rfl ?_
        refine kc_X12_272 rfl (dtk dt_X12_part0 34 (57, .invokevirtual 272, 3) rfl) (c_X12_look0 (G := G)  (by first | exact hA.rn [40, 60, 11] | exact hA.rn [40, 11] | exact hA.rn [60, 11] | exact hA.rn [11]) (by first | (show 0 ≤ rnL M [40, 60, 11] 36 14 ∧ rnL M [40, 60, 11] 36 14 ≤ 50; rw [rnL_14]; simp; omega) | (show 0 ≤ rnL M [40, 11] 36 14 ∧ rnL M [40, 11] 36 14 ≤ 50; rw [rnL_14]; simp; omega) | (show 0 ≤ rnL M [60, 11] 36 14 ∧ rnL M [60, 11] 36 14 ≤ 50; rw [rnL_14]; simp; omega) | (show 0 ≤ rnL M [11] 36 14 ∧ rnL M [11] 36 14 ≤ 50; rw [rnL_14]; simp; omega))) rfl rfl (wk_36 hA.wf) (fitR (by decide) (by decide)) (Nat.le_of_ble_eq_true rfl) (pqK ?_)
        try simp only [ranM_x (show (37 : Int) ≠ 36 ∧ (37 : Int) ≠ 45 by decide), rnL_x (show (37 : Int) ≠ 36 ∧ (37 : Int) ≠ 45 by decide)]
        refine x_aload_n (dtk dt_X12_part0 35 (60, .aload_n 0, 1) rfl) rfl ?_
        refine fg_X12_13 rfl (dtk dt_X12_part0 36 (61, .getfield 13, 3) rfl) (wk_36 hA.wf) (by first | exact wm_36_2 (AT.wf ((by have q := hA.rn ([40, 60, 11] ++ (lookT (M 37 o))); rw [← rnL_app] at q; exact q))) | exact wm_36_2 (AT.wf ((by have q := hA.rn ([40, 11] ++ (lookT (M 37 o))); rw [← rnL_app] at q; exact q))) | exact wm_36_2 (AT.wf ((by have q := hA.rn ([60, 11] ++ (lookT (M 37 o))); rw [← rnL_app] at q; exact q))) | exact wm_36_2 (AT.wf ((by have q := hA.rn ([11] ++ (lookT (M 37 o))); rw [← rnL_app] at q; exact q)))) ?_
        refine x_iload_n (dtk dt_X12_part0 37 (64, .iload_n 1, 1) rfl) rfl ?_
        refine x_iald (dtk dt_X12_part0 38 (65, .iaload, 1) rfl) (wk_38 hA.wf) ⟨by omega, by omega⟩ ?_
        try simp only [ranM_x (show (38 : Int) ≠ 36 ∧ (38 : Int) ≠ 45 by decide), rnL_x (show (38 : Int) ≠ 36 ∧ (38 : Int) ≠ 45 by decide)]
        rw [hA.sz]
        refine w_imul (dtk dt_X12_part0 39 (66, .imul, 1) rfl) ?_
        refine x_istore_n (dtk dt_X12_part0 40 (67, .istore_n 3, 1) rfl) (by decide) ?_
        refine x_aload_n (dtk dt_X12_part0 41 (68, .aload_n 0, 1) rfl) rfl ?_
        refine fg_X12_7 rfl (dtk dt_X12_part0 42 (69, .getfield 7, 3) rfl) (wk_36 hA.wf) (by first | exact wm_36_1 (AT.wf ((by have q := hA.rn ([40, 60, 11] ++ (lookT (M 37 o))); rw [← rnL_app] at q; exact q))) | exact wm_36_1 (AT.wf ((by have q := hA.rn ([40, 11] ++ (lookT (M 37 o))); rw [← rnL_app] at q; exact q))) | exact wm_36_1 (AT.wf ((by have q := hA.rn ([60, 11] ++ (lookT (M 37 o))); rw [← rnL_app] at q; exact q))) | exact wm_36_1 (AT.wf ((by have q := hA.rn ([11] ++ (lookT (M 37 o))); rw [← rnL_app] at q; exact q)))) ?_
        refine x_iload_n (dtk dt_X12_part0 43 (72, .iload_n 1, 1) rfl) rfl ?_
        refine x_iald (dtk dt_X12_part0 44 (73, .iaload, 1) rfl) (wk_37 hA.wf) ⟨by omega, by omega⟩ ?_
        try simp only [ranM_x (show (37 : Int) ≠ 36 ∧ (37 : Int) ≠ 45 by decide), rnL_x (show (37 : Int) ≠ 36 ∧ (37 : Int) ≠ 45 by decide)]
        refine x_iconst (v := 3) ⟨by decide, by decide⟩ (dtk dt_X12_part0 45 (74, .iconst 3, 1) rfl) ?_
        refine x_icmp_ne (tgt := 88) (dtk dt_X12_part0 46 (75, .if_icmp .ne 13, 3) rfl) (by decide) (fun c75 => ?_) (fun c75 => ?_)
        · skip
          refine x_iload_n (dtk dt_X12_part0 53 (88, .iload_n 3, 1) rfl) rfl ?_
          exact r_i (dtk dt_X12_part0 54 (89, .ireturn, 1) rfl) rfl (by unfold partR; simp_all) (by unfold partT; simp_all [← rnL_app] <;> rfl)
        · skip
          refine x_iload_n (dtk dt_X12_part0 47 (78, .iload_n 3, 1) rfl) rfl ?_
          refine x_aload_n (dtk dt_X12_part0 48 (79, .aload_n 0, 1) rfl) rfl ?_
          refine x_iload_n (dtk dt_X12_part0 49 (80, .iload_n 1, 1) rfl) rfl ?_
          refine kc_X12_228 rfl (dtk dt_X12_part0 50 (81, .invokevirtual 228, 3) rfl) (c_X12_pairsOf (G := G)  (by first | exact (by have q := hA.rn ([40, 60, 11] ++ (lookT (M 37 o))); rw [← rnL_app] at q; exact q) | exact (by have q := hA.rn ([40, 11] ++ (lookT (M 37 o))); rw [← rnL_app] at q; exact q) | exact (by have q := hA.rn ([60, 11] ++ (lookT (M 37 o))); rw [← rnL_app] at q; exact q) | exact (by have q := hA.rn ([11] ++ (lookT (M 37 o))); rw [← rnL_app] at q; exact q))) rfl rfl (wk_36 hA.wf) (fitR (by decide) (by decide)) (Nat.le_of_ble_eq_true rfl) (pqK ?_)
          refine w_isub (dtk dt_X12_part0 51 (84, .isub, 1) rfl) ?_
          refine x_goto (tgt := 89) (dtk dt_X12_part0 52 (85, .goto 4, 3) rfl) (by decide) ?_
          exact r_i (dtk dt_X12_part0 54 (89, .ireturn, 1) rfl) rfl (by unfold partR; simp_all) (by unfold partT; simp_all [← rnL_app] <;> rfl)
      · skip
        refine x_iload_n (dtk dt_X12_part0 29 (50, .iload_n 2, 1) rfl) rfl ?_
        refine x_iconst (v := 2) ⟨by decide, by decide⟩ (dtk dt_X12_part0 30 (51, .iconst 2, 1) rfl) ?_
        refine w_iadd (dtk dt_X12_part0 31 (52, .iadd, 1) rfl) ?_
        refine x_goto (tgt := 57) (dtk dt_X12_part0 32 (53, .goto 4, 3) rfl) (by decide) ?_
        refine kc_X12_272 rfl (dtk dt_X12_part0 34 (57, .invokevirtual 272, 3) rfl) (c_X12_look0 (G := G)  (by first | exact hA.rn [40, 60, 11] | exact hA.rn [40, 11] | exact hA.rn [60, 11] | exact hA.rn [11]) (by first | (show 0 ≤ rnL M [40, 60, 11] 36 14 ∧ rnL M [40, 60, 11] 36 14 ≤ 50; rw [rnL_14]; simp; omega) | (show 0 ≤ rnL M [40, 11] 36 14 ∧ rnL M [40, 11] 36 14 ≤ 50; rw [rnL_14]; simp; omega) | (show 0 ≤ rnL M [60, 11] 36 14 ∧ rnL M [60, 11] 36 14 ≤ 50; rw [rnL_14]; simp; omega) | (show 0 ≤ rnL M [11] 36 14 ∧ rnL M [11] 36 14 ≤ 50; rw [rnL_14]; simp; omega))) rfl rfl (wk_36 hA.wf) (fitR (by decide) (by decide)) (Nat.le_of_ble_eq_true rfl) (pqK ?_)
        try simp only [ranM_x (show (37 : Int) ≠ 36 ∧ (37 : Int) ≠ 45 by decide), rnL_x (show (37 : Int) ≠ 36 ∧ (37 : Int) ≠ 45 by decide)]
        refine x_aload_n (dtk dt_X12_part0 35 (60, .aload_n 0, 1) rfl) rfl ?_
        refine fg_X12_13 rfl (dtk dt_X12_part0 36 (61, .getfield 13, 3) rfl) (wk_36 hA.wf) (by first | exact wm_36_2 (AT.wf ((by have q := hA.rn ([40, 60, 11] ++ (lookT (M 37 o))); rw [← rnL_app] at q; exact q))) | exact wm_36_2 (AT.wf ((by have q := hA.rn ([40, 11] ++ (lookT (M 37 o))); rw [← rnL_app] at q; exact q))) | exact wm_36_2 (AT.wf ((by have q := hA.rn ([60, 11] ++ (lookT (M 37 o))); rw [← rnL_app] at q; exact q))) | exact wm_36_2 (AT.wf ((by have q := hA.rn ([11] ++ (lookT (M 37 o))); rw [← rnL_app] at q; exact q)))) ?_
        refine x_iload_n (dtk dt_X12_part0 37 (64, .iload_n 1, 1) rfl) rfl ?_
        refine x_iald (dtk dt_X12_part0 38 (65, .iaload, 1) rfl) (wk_38 hA.wf) ⟨by omega, by omega⟩ ?_
        try simp only [ranM_x (show (38 : Int) ≠ 36 ∧ (38 : Int) ≠ 45 by decide), rnL_x (show (38 : Int) ≠ 36 ∧ (38 : Int) ≠ 45 by decide)]
        rw [hA.sz]
        refine w_imul (dtk dt_X12_part0 39 (66, .imul, 1) rfl) ?_
        refine x_istore_n (dtk dt_X12_part0 40 (67, .istore_n 3, 1) rfl) (by decide) ?_
        refine x_aload_n (dtk dt_X12_part0 41 (68, .aload_n 0, 1) rfl) rfl ?_
        refine fg_X12_7 rfl (dtk dt_X12_part0 42 (69, .getfield 7, 3) rfl) (wk_36 hA.wf) (by first | exact wm_36_1 (AT.wf ((by have q := hA.rn ([40, 60, 11] ++ (lookT (M 37 o))); rw [← rnL_app] at q; exact q))) | exact wm_36_1 (AT.wf ((by have q := hA.rn ([40, 11] ++ (lookT (M 37 o))); rw [← rnL_app] at q; exact q))) | exact wm_36_1 (AT.wf ((by have q := hA.rn ([60, 11] ++ (lookT (M 37 o))); rw [← rnL_app] at q; exact q))) | exact wm_36_1 (AT.wf ((by have q := hA.rn ([11] ++ (lookT (M 37 o))); rw [← rnL_app] at q; exact q)))) ?_
        refine x_iload_n (dtk dt_X12_part0 43 (72, .iload_n 1, 1) rfl) rfl ?_
        refine x_iald (dtk dt_X12_part0 44 (73, .iaload, 1) rfl) (wk_37 hA.wf) ⟨by omega, by omega⟩ ?_
        try simp only [ranM_x (show (37 : Int) ≠ 36 ∧ (37 : Int) ≠ 45 by decide), rnL_x (show (37 : Int) ≠ 36 ∧ (37 : Int) ≠ 45 by decide)]
        refine x_iconst (v := 3) ⟨by decide, by decide⟩ (dtk dt_X12_part0 45 (74, .iconst 3, 1) rfl) ?_
        refine x_icmp_ne (tgt := 88) (dtk dt_X12_part0 46 (75, .if_icmp .ne 13, 3) rfl) (by decide) (fun c75 => ?_) (fun c75 => ?_)
        · skip
          refine x_iload_n (dtk dt_X12_part0 53 (88, .iload_n 3, 1) rfl) rfl ?_
          exact r_i (dtk dt_X12_part0 54 (89, .ireturn, 1) rfl) rfl (by unfold partR; simp_all) (by unfold partT; simp_all [← rnL_app] <;> rfl)
        · skip
          refine x_iload_n (dtk dt_X12_part0 47 (78, .iload_n 3, 1) rfl) rfl ?_
          refine x_aload_n (dtk dt_X12_part0 48 (79, .aload_n 0, 1) rfl) rfl ?_
          refine x_iload_n (dtk dt_X12_part0 49 (80, .iload_n 1, 1) rfl) rfl ?_
          refine kc_X12_228 rfl (dtk dt_X12_part0 50 (81, .invokevirtual 228, 3) rfl) (c_X12_pairsOf (G := G)  (by first | exact (by have q := hA.rn ([40, 60, 11] ++ (lookT (M 37 o))); rw [← rnL_app] at q; exact q) | exact (by have q := hA.rn ([40, 11] ++ (lookT (M 37 o))); rw [← rnL_app] at q; exact q) | exact (by have q := hA.rn ([60, 11] ++ (lookT (M 37 o))); rw [← rnL_app] at q; exact q) | exact (by have q := hA.rn ([11] ++ (lookT (M 37 o))); rw [← rnL_app] at q; exact q))) rfl rfl (wk_36 hA.wf) (fitR (by decide) (by decide)) (Nat.le_of_ble_eq_true rfl) (pqK ?_)
          refine w_isub (dtk dt_X12_part0 51 (84, .isub, 1) rfl) ?_
          refine x_goto (tgt := 89) (dtk dt_X12_part0 52 (85, .goto 4, 3) rfl) (by decide) ?_
          exact r_i (dtk dt_X12_part0 54 (89, .ireturn, 1) rfl) rfl (by unfold partR; simp_all) (by unfold partT; simp_all [← rnL_app] <;> rfl)
  · skip
    refine x_aload_n (dtk dt_X12_part0 6 (10, .aload_n 0, 1) rfl) rfl ?_
    refine x_bipush (v := 40) ⟨by decide, by decide⟩ (dtk dt_X12_part0 7 (11, .bipush 40, 2) rfl) ?_
    refine kc_X12_263 rfl (dtk dt_X12_part0 8 (13, .invokevirtual 263, 3) rfl) (c_X12_ran (G := G)  (WF.rn hA.wf []) (by have hq := rnL_14 [] M; simp only [List.length_cons, List.length_nil, List.length_append] at hq; show 0 ≤ rnL M [] 36 14 ∧ rnL M [] 36 14 < 60; omega)) rfl rfl (wk_36 hA.wf) (fitR (by decide) (by decide)) (Nat.le_of_ble_eq_true rfl) (pqK ?_)
    refine x_aload_n (dtk dt_X12_part0 9 (16, .aload_n 0, 1) rfl) rfl ?_
    refine fg_X12_7 rfl (dtk dt_X12_part0 10 (17, .getfield 7, 3) rfl) (wk_36 hA.wf) (by first | exact wm_36_1 (AT.wf (hA.rn [40])) | exact wm_36_1 (AT.wf (hA.rn []))) ?_
    refine x_iload_n (dtk dt_X12_part0 11 (20, .iload_n 1, 1) rfl) rfl ?_
    refine x_iald (dtk dt_X12_part0 12 (21, .iaload, 1) rfl) (wk_37 hA.wf) ⟨by omega, by omega⟩ ?_
    try simp only [ranM_x (show (37 : Int) ≠ 36 ∧ (37 : Int) ≠ 45 by decide), rnL_x (show (37 : Int) ≠ 36 ∧ (37 : Int) ≠ 45 by decide)]
    refine x_iconst (v := 5) ⟨by decide, by decide⟩ (dtk dt_X12_part0 13 (22, .iconst 5, 1) rfl) ?_
    refine x_icmp_ne (tgt := 32) (dtk dt_X12_part0 14 (23, .if_icmp .ne 9, 3) rfl) (by decide) (fun c23 => ?_) (fun c23 => ?_)
    · skip
      refine x_aload_n (dtk dt_X12_part0 18 (32, .aload_n 0, 1) rfl) rfl ?_
      refine x_bipush (v := 11) ⟨by decide, by decide⟩ (dtk dt_X12_part0 19 (33, .bipush 11, 2) rfl) ?_
      refine kc_X12_263 rfl (dtk dt_X12_part0 20 (35, .invokevirtual 263, 3) rfl) (c_X12_ran (G := G)  (by first | exact id (AT.wf (hA.rn [40, 60])) | exact id (AT.wf (hA.rn [40])) | exact id (AT.wf (hA.rn [60])) | exact id (AT.wf (hA.rn []))) (by first | (show 0 ≤ rnL M [40, 60] 36 14 ∧ rnL M [40, 60] 36 14 < 60; rw [rnL_14]; simp; omega) | (show 0 ≤ rnL M [40] 36 14 ∧ rnL M [40] 36 14 < 60; rw [rnL_14]; simp; omega) | (show 0 ≤ rnL M [60] 36 14 ∧ rnL M [60] 36 14 < 60; rw [rnL_14]; simp; omega) | (show 0 ≤ rnL M [] 36 14 ∧ rnL M [] 36 14 < 60; rw [rnL_14]; simp; omega))) rfl rfl (wk_36 hA.wf) (fitR (by decide) (by decide)) (Nat.le_of_ble_eq_true rfl) (pqK ?_)
      refine x_aload_n (dtk dt_X12_part0 21 (38, .aload_n 0, 1) rfl) rfl ?_
      refine x_iload_n (dtk dt_X12_part0 22 (39, .iload_n 1, 1) rfl) rfl ?_
      refine x_aload_n (dtk dt_X12_part0 23 (40, .aload_n 0, 1) rfl) rfl ?_
      refine fg_X12_7 rfl (dtk dt_X12_part0 24 (41, .getfield 7, 3) rfl) (wk_36 hA.wf) (by first | exact wm_36_1 (AT.wf (hA.rn [40, 60, 11])) | exact wm_36_1 (AT.wf (hA.rn [40, 11])) | exact wm_36_1 (AT.wf (hA.rn [60, 11])) | exact wm_36_1 (AT.wf (hA.rn [11]))) ?_
      refine x_iload_n (dtk dt_X12_part0 25 (44, .iload_n 1, 1) rfl) rfl ?_
      refine x_iald (dtk dt_X12_part0 26 (45, .iaload, 1) rfl) (wk_37 hA.wf) ⟨by omega, by omega⟩ ?_
      try simp only [ranM_x (show (37 : Int) ≠ 36 ∧ (37 : Int) ≠ 45 by decide), rnL_x (show (37 : Int) ≠ 36 ∧ (37 : Int) ≠ 45 by decide)]
      refine x_iconst (v := 5) ⟨by decide, by decide⟩ (dtk dt_X12_part0 27 (46, .iconst 5, 1) rfl) ?_
      refine x_icmp_ne (tgt := 56) (dtk dt_X12_part0 28 (47, .if_icmp .ne 9, 3) rfl) (by decide) (fun c47 => ?_) (fun c47 => ?_)
      · skip
        refine x_iload_n (dtk dt_X12_part0 33 (56, .iload_n 2, 1) rfl) rfl ?_
        refine kc_X12_272 rfl (dtk dt_X12_part0 34 (57, .invokevirtual 272, 3) rfl) (c_X12_look0 (G := G)  (by first | exact hA.rn [40, 60, 11] | exact hA.rn [40, 11] | exact hA.rn [60, 11] | exact hA.rn [11]) (by first | (show 0 ≤ rnL M [40, 60, 11] 36 14 ∧ rnL M [40, 60, 11] 36 14 ≤ 50; rw [rnL_14]; simp; omega) | (show 0 ≤ rnL M [40, 11] 36 14 ∧ rnL M [40, 11] 36 14 ≤ 50; rw [rnL_14]; simp; omega) | (show 0 ≤ rnL M [60, 11] 36 14 ∧ rnL M [60, 11] 36 14 ≤ 50; rw [rnL_14]; simp; omega) | (show 0 ≤ rnL M [11] 36 14 ∧ rnL M [11] 36 14 ≤ 50; rw [rnL_14]; simp; omega))) rfl rfl (wk_36 hA.wf) (fitR (by decide) (by decide)) (Nat.le_of_ble_eq_true rfl) (pqK ?_)
        try simp only [ranM_x (show (37 : Int) ≠ 36 ∧ (37 : Int) ≠ 45 by decide), rnL_x (show (37 : Int) ≠ 36 ∧ (37 : Int) ≠ 45 by decide)]
        refine x_aload_n (dtk dt_X12_part0 35 (60, .aload_n 0, 1) rfl) rfl ?_
        refine fg_X12_13 rfl (dtk dt_X12_part0 36 (61, .getfield 13, 3) rfl) (wk_36 hA.wf) (by first | exact wm_36_2 (AT.wf ((by have q := hA.rn ([40, 60, 11] ++ (lookT (M 37 o))); rw [← rnL_app] at q; exact q))) | exact wm_36_2 (AT.wf ((by have q := hA.rn ([40, 11] ++ (lookT (M 37 o))); rw [← rnL_app] at q; exact q))) | exact wm_36_2 (AT.wf ((by have q := hA.rn ([60, 11] ++ (lookT (M 37 o))); rw [← rnL_app] at q; exact q))) | exact wm_36_2 (AT.wf ((by have q := hA.rn ([11] ++ (lookT (M 37 o))); rw [← rnL_app] at q; exact q)))) ?_
        refine x_iload_n (dtk dt_X12_part0 37 (64, .iload_n 1, 1) rfl) rfl ?_
        refine x_iald (dtk dt_X12_part0 38 (65, .iaload, 1) rfl) (wk_38 hA.wf) ⟨by omega, by omega⟩ ?_
        try simp only [ranM_x (show (38 : Int) ≠ 36 ∧ (38 : Int) ≠ 45 by decide), rnL_x (show (38 : Int) ≠ 36 ∧ (38 : Int) ≠ 45 by decide)]
        rw [hA.sz]
        refine w_imul (dtk dt_X12_part0 39 (66, .imul, 1) rfl) ?_
        refine x_istore_n (dtk dt_X12_part0 40 (67, .istore_n 3, 1) rfl) (by decide) ?_
        refine x_aload_n (dtk dt_X12_part0 41 (68, .aload_n 0, 1) rfl) rfl ?_
        refine fg_X12_7 rfl (dtk dt_X12_part0 42 (69, .getfield 7, 3) rfl) (wk_36 hA.wf) (by first | exact wm_36_1 (AT.wf ((by have q := hA.rn ([40, 60, 11] ++ (lookT (M 37 o))); rw [← rnL_app] at q; exact q))) | exact wm_36_1 (AT.wf ((by have q := hA.rn ([40, 11] ++ (lookT (M 37 o))); rw [← rnL_app] at q; exact q))) | exact wm_36_1 (AT.wf ((by have q := hA.rn ([60, 11] ++ (lookT (M 37 o))); rw [← rnL_app] at q; exact q))) | exact wm_36_1 (AT.wf ((by have q := hA.rn ([11] ++ (lookT (M 37 o))); rw [← rnL_app] at q; exact q)))) ?_
        refine x_iload_n (dtk dt_X12_part0 43 (72, .iload_n 1, 1) rfl) rfl ?_
        refine x_iald (dtk dt_X12_part0 44 (73, .iaload, 1) rfl) (wk_37 hA.wf) ⟨by omega, by omega⟩ ?_
        try simp only [ranM_x (show (37 : Int) ≠ 36 ∧ (37 : Int) ≠ 45 by decide), rnL_x (show (37 : Int) ≠ 36 ∧ (37 : Int) ≠ 45 by decide)]
        refine x_iconst (v := 3) ⟨by decide, by decide⟩ (dtk dt_X12_part0 45 (74, .iconst 3, 1) rfl) ?_
        refine x_icmp_ne (tgt := 88) (dtk dt_X12_part0 46 (75, .if_icmp .ne 13, 3) rfl) (by decide) (fun c75 => ?_) (fun c75 => ?_)
        · skip
          refine x_iload_n (dtk dt_X12_part0 53 (88, .iload_n 3, 1) rfl) rfl ?_
          exact r_i (dtk dt_X12_part0 54 (89, .ireturn, 1) rfl) rfl (by unfold partR; simp_all) (by unfold partT; simp_all [← rnL_app] <;> rfl)
        · skip
          refine x_iload_n (dtk dt_X12_part0 47 (78, .iload_n 3, 1) rfl) rfl ?_
          refine x_aload_n (dtk dt_X12_part0 48 (79, .aload_n 0, 1) rfl) rfl ?_
          refine x_iload_n (dtk dt_X12_part0 49 (80, .iload_n 1, 1) rfl) rfl ?_
          refine kc_X12_228 rfl (dtk dt_X12_part0 50 (81, .invokevirtual 228, 3) rfl) (c_X12_pairsOf (G := G)  (by first | exact (by have q := hA.rn ([40, 60, 11] ++ (lookT (M 37 o))); rw [← rnL_app] at q; exact q) | exact (by have q := hA.rn ([40, 11] ++ (lookT (M 37 o))); rw [← rnL_app] at q; exact q) | exact (by have q := hA.rn ([60, 11] ++ (lookT (M 37 o))); rw [← rnL_app] at q; exact q) | exact (by have q := hA.rn ([11] ++ (lookT (M 37 o))); rw [← rnL_app] at q; exact q))) rfl rfl (wk_36 hA.wf) (fitR (by decide) (by decide)) (Nat.le_of_ble_eq_true rfl) (pqK ?_)
          refine w_isub (dtk dt_X12_part0 51 (84, .isub, 1) rfl) ?_
          refine x_goto (tgt := 89) (dtk dt_X12_part0 52 (85, .goto 4, 3) rfl) (by decide) ?_
          exact r_i (dtk dt_X12_part0 54 (89, .ireturn, 1) rfl) rfl (by unfold partR; simp_all) (by unfold partT; simp_all [← rnL_app] <;> rfl)
      · skip
        refine x_iload_n (dtk dt_X12_part0 29 (50, .iload_n 2, 1) rfl) rfl ?_
        refine x_iconst (v := 2) ⟨by decide, by decide⟩ (dtk dt_X12_part0 30 (51, .iconst 2, 1) rfl) ?_
        refine w_iadd (dtk dt_X12_part0 31 (52, .iadd, 1) rfl) ?_
        refine x_goto (tgt := 57) (dtk dt_X12_part0 32 (53, .goto 4, 3) rfl) (by decide) ?_
        refine kc_X12_272 rfl (dtk dt_X12_part0 34 (57, .invokevirtual 272, 3) rfl) (c_X12_look0 (G := G)  (by first | exact hA.rn [40, 60, 11] | exact hA.rn [40, 11] | exact hA.rn [60, 11] | exact hA.rn [11]) (by first | (show 0 ≤ rnL M [40, 60, 11] 36 14 ∧ rnL M [40, 60, 11] 36 14 ≤ 50; rw [rnL_14]; simp; omega) | (show 0 ≤ rnL M [40, 11] 36 14 ∧ rnL M [40, 11] 36 14 ≤ 50; rw [rnL_14]; simp; omega) | (show 0 ≤ rnL M [60, 11] 36 14 ∧ rnL M [60, 11] 36 14 ≤ 50; rw [rnL_14]; simp; omega) | (show 0 ≤ rnL M [11] 36 14 ∧ rnL M [11] 36 14 ≤ 50; rw [rnL_14]; simp; omega))) rfl rfl (wk_36 hA.wf) (fitR (by decide) (by decide)) (Nat.le_of_ble_eq_true rfl) (pqK ?_)
        try simp only [ranM_x (show (37 : Int) ≠ 36 ∧ (37 : Int) ≠ 45 by decide), rnL_x (show (37 : Int) ≠ 36 ∧ (37 : Int) ≠ 45 by decide)]
        refine x_aload_n (dtk dt_X12_part0 35 (60, .aload_n 0, 1) rfl) rfl ?_
        refine fg_X12_13 rfl (dtk dt_X12_part0 36 (61, .getfield 13, 3) rfl) (wk_36 hA.wf) (by first | exact wm_36_2 (AT.wf ((by have q := hA.rn ([40, 60, 11] ++ (lookT (M 37 o))); rw [← rnL_app] at q; exact q))) | exact wm_36_2 (AT.wf ((by have q := hA.rn ([40, 11] ++ (lookT (M 37 o))); rw [← rnL_app] at q; exact q))) | exact wm_36_2 (AT.wf ((by have q := hA.rn ([60, 11] ++ (lookT (M 37 o))); rw [← rnL_app] at q; exact q))) | exact wm_36_2 (AT.wf ((by have q := hA.rn ([11] ++ (lookT (M 37 o))); rw [← rnL_app] at q; exact q)))) ?_
        refine x_iload_n (dtk dt_X12_part0 37 (64, .iload_n 1, 1) rfl) rfl ?_
        refine x_iald (dtk dt_X12_part0 38 (65, .iaload, 1) rfl) (wk_38 hA.wf) ⟨by omega, by omega⟩ ?_
        try simp only [ranM_x (show (38 : Int) ≠ 36 ∧ (38 : Int) ≠ 45 by decide), rnL_x (show (38 : Int) ≠ 36 ∧ (38 : Int) ≠ 45 by decide)]
        rw [hA.sz]
        refine w_imul (dtk dt_X12_part0 39 (66, .imul, 1) rfl) ?_
        refine x_istore_n (dtk dt_X12_part0 40 (67, .istore_n 3, 1) rfl) (by decide) ?_
        refine x_aload_n (dtk dt_X12_part0 41 (68, .aload_n 0, 1) rfl) rfl ?_
        refine fg_X12_7 rfl (dtk dt_X12_part0 42 (69, .getfield 7, 3) rfl) (wk_36 hA.wf) (by first | exact wm_36_1 (AT.wf ((by have q := hA.rn ([40, 60, 11] ++ (lookT (M 37 o))); rw [← rnL_app] at q; exact q))) | exact wm_36_1 (AT.wf ((by have q := hA.rn ([40, 11] ++ (lookT (M 37 o))); rw [← rnL_app] at q; exact q))) | exact wm_36_1 (AT.wf ((by have q := hA.rn ([60, 11] ++ (lookT (M 37 o))); rw [← rnL_app] at q; exact q))) | exact wm_36_1 (AT.wf ((by have q := hA.rn ([11] ++ (lookT (M 37 o))); rw [← rnL_app] at q; exact q)))) ?_
        refine x_iload_n (dtk dt_X12_part0 43 (72, .iload_n 1, 1) rfl) rfl ?_
        refine x_iald (dtk dt_X12_part0 44 (73, .iaload, 1) rfl) (wk_37 hA.wf) ⟨by omega, by omega⟩ ?_
        try simp only [ranM_x (show (37 : Int) ≠ 36 ∧ (37 : Int) ≠ 45 by decide), rnL_x (show (37 : Int) ≠ 36 ∧ (37 : Int) ≠ 45 by decide)]
        refine x_iconst (v := 3) ⟨by decide, by decide⟩ (dtk dt_X12_part0 45 (74, .iconst 3, 1) rfl) ?_
        refine x_icmp_ne (tgt := 88) (dtk dt_X12_part0 46 (75, .if_icmp .ne 13, 3) rfl) (by decide) (fun c75 => ?_) (fun c75 => ?_)
        · skip
          refine x_iload_n (dtk dt_X12_part0 53 (88, .iload_n 3, 1) rfl) rfl ?_
          exact r_i (dtk dt_X12_part0 54 (89, .ireturn, 1) rfl) rfl (by unfold partR; simp_all) (by unfold partT; simp_all [← rnL_app] <;> rfl)
        · skip
          refine x_iload_n (dtk dt_X12_part0 47 (78, .iload_n 3, 1) rfl) rfl ?_
          refine x_aload_n (dtk dt_X12_part0 48 (79, .aload_n 0, 1) rfl) rfl ?_
          refine x_iload_n (dtk dt_X12_part0 49 (80, .iload_n 1, 1) rfl) rfl ?_
          refine kc_X12_228 rfl (dtk dt_X12_part0 50 (81, .invokevirtual 228, 3) rfl) (c_X12_pairsOf (G := G)  (by first | exact (by have q := hA.rn ([40, 60, 11] ++ (lookT (M 37 o))); rw [← rnL_app] at q; exact q) | exact (by have q := hA.rn ([40, 11] ++ (lookT (M 37 o))); rw [← rnL_app] at q; exact q) | exact (by have q := hA.rn ([60, 11] ++ (lookT (M 37 o))); rw [← rnL_app] at q; exact q) | exact (by have q := hA.rn ([11] ++ (lookT (M 37 o))); rw [← rnL_app] at q; exact q))) rfl rfl (wk_36 hA.wf) (fitR (by decide) (by decide)) (Nat.le_of_ble_eq_true rfl) (pqK ?_)
          refine w_isub (dtk dt_X12_part0 51 (84, .isub, 1) rfl) ?_
          refine x_goto (tgt := 89) (dtk dt_X12_part0 52 (85, .goto 4, 3) rfl) (by decide) ?_
          exact r_i (dtk dt_X12_part0 54 (89, .ireturn, 1) rfl) rfl (by unfold partR; simp_all) (by unfold partT; simp_all [← rnL_app] <;> rfl)
    · skip
      refine x_aload_n (dtk dt_X12_part0 15 (26, .aload_n 0, 1) rfl) rfl ?_
      refine x_bipush (v := 60) ⟨by decide, by decide⟩ (dtk dt_X12_part0 16 (27, .bipush 60, 2) rfl) ?_
      refine kc_X12_263 rfl (dtk dt_X12_part0 17 (29, .invokevirtual 263, 3) rfl) (c_X12_ran (G := G)  (by first | exact id (AT.wf (hA.rn [40])) | exact id (AT.wf (hA.rn []))) (by first | (show 0 ≤ rnL M [40] 36 14 ∧ rnL M [40] 36 14 < 60; rw [rnL_14]; simp; omega) | (show 0 ≤ rnL M [] 36 14 ∧ rnL M [] 36 14 < 60; rw [rnL_14]; simp; omega))) rfl rfl (wk_36 hA.wf) (fitR (by decide) (by decide)) (Nat.le_of_ble_eq_true rfl) (pqK ?_)
      refine x_aload_n (dtk dt_X12_part0 18 (32, .aload_n 0, 1) rfl) rfl ?_
      refine x_bipush (v := 11) ⟨by decide, by decide⟩ (dtk dt_X12_part0 19 (33, .bipush 11, 2) rfl) ?_
      refine kc_X12_263 rfl (dtk dt_X12_part0 20 (35, .invokevirtual 263, 3) rfl) (c_X12_ran (G := G)  (by first | exact id (AT.wf (hA.rn [40, 60])) | exact id (AT.wf (hA.rn [40])) | exact id (AT.wf (hA.rn [60])) | exact id (AT.wf (hA.rn []))) (by first | (show 0 ≤ rnL M [40, 60] 36 14 ∧ rnL M [40, 60] 36 14 < 60; rw [rnL_14]; simp; omega) | (show 0 ≤ rnL M [40] 36 14 ∧ rnL M [40] 36 14 < 60; rw [rnL_14]; simp; omega) | (show 0 ≤ rnL M [60] 36 14 ∧ rnL M [60] 36 14 < 60; rw [rnL_14]; simp; omega) | (show 0 ≤ rnL M [] 36 14 ∧ rnL M [] 36 14 < 60; rw [rnL_14]; simp; omega))) rfl rfl (wk_36 hA.wf) (fitR (by decide) (by decide)) (Nat.le_of_ble_eq_true rfl) (pqK ?_)
      refine x_aload_n (dtk dt_X12_part0 21 (38, .aload_n 0, 1) rfl) rfl ?_
      refine x_iload_n (dtk dt_X12_part0 22 (39, .iload_n 1, 1) rfl) rfl ?_
      refine x_aload_n (dtk dt_X12_part0 23 (40, .aload_n 0, 1) rfl) rfl ?_
      refine fg_X12_7 rfl (dtk dt_X12_part0 24 (41, .getfield 7, 3) rfl) (wk_36 hA.wf) (by first | exact wm_36_1 (AT.wf (hA.rn [40, 60, 11])) | exact wm_36_1 (AT.wf (hA.rn [40, 11])) | exact wm_36_1 (AT.wf (hA.rn [60, 11])) | exact wm_36_1 (AT.wf (hA.rn [11]))) ?_
      refine x_iload_n (dtk dt_X12_part0 25 (44, .iload_n 1, 1) rfl) rfl ?_
      refine x_iald (dtk dt_X12_part0 26 (45, .iaload, 1) rfl) (wk_37 hA.wf) ⟨by omega, by omega⟩ ?_
      try simp only [ranM_x (show (37 : Int) ≠ 36 ∧ (37 : Int) ≠ 45 by decide), rnL_x (show (37 : Int) ≠ 36 ∧ (37 : Int) ≠ 45 by decide)]
      refine x_iconst (v := 5) ⟨by decide, by decide⟩ (dtk dt_X12_part0 27 (46, .iconst 5, 1) rfl) ?_
      refine x_icmp_ne (tgt := 56) (dtk dt_X12_part0 28 (47, .if_icmp .ne 9, 3) rfl) (by decide) (fun c47 => ?_) (fun c47 => ?_)
      · skip
        refine x_iload_n (dtk dt_X12_part0 33 (56, .iload_n 2, 1) rfl) rfl ?_
        refine kc_X12_272 rfl (dtk dt_X12_part0 34 (57, .invokevirtual 272, 3) rfl) (c_X12_look0 (G := G)  (by first | exact hA.rn [40, 60, 11] | exact hA.rn [40, 11] | exact hA.rn [60, 11] | exact hA.rn [11]) (by first | (show 0 ≤ rnL M [40, 60, 11] 36 14 ∧ rnL M [40, 60, 11] 36 14 ≤ 50; rw [rnL_14]; simp; omega) | (show 0 ≤ rnL M [40, 11] 36 14 ∧ rnL M [40, 11] 36 14 ≤ 50; rw [rnL_14]; simp; omega) | (show 0 ≤ rnL M [60, 11] 36 14 ∧ rnL M [60, 11] 36 14 ≤ 50; rw [rnL_14]; simp; omega) | (show 0 ≤ rnL M [11] 36 14 ∧ rnL M [11] 36 14 ≤ 50; rw [rnL_14]; simp; omega))) rfl rfl (wk_36 hA.wf) (fitR (by decide) (by decide)) (Nat.le_of_ble_eq_true rfl) (pqK ?_)
        try simp only [ranM_x (show (37 : Int) ≠ 36 ∧ (37 : Int) ≠ 45 by decide), rnL_x (show (37 : Int) ≠ 36 ∧ (37 : Int) ≠ 45 by decide)]
        refine x_aload_n (dtk dt_X12_part0 35 (60, .aload_n 0, 1) rfl) rfl ?_
        refine fg_X12_13 rfl (dtk dt_X12_part0 36 (61, .getfield 13, 3) rfl) (wk_36 hA.wf) (by first | exact wm_36_2 (AT.wf ((by have q := hA.rn ([40, 60, 11] ++ (lookT (M 37 o))); rw [← rnL_app] at q; exact q))) | exact wm_36_2 (AT.wf ((by have q := hA.rn ([40, 11] ++ (lookT (M 37 o))); rw [← rnL_app] at q; exact q))) | exact wm_36_2 (AT.wf ((by have q := hA.rn ([60, 11] ++ (lookT (M 37 o))); rw [← rnL_app] at q; exact q))) | exact wm_36_2 (AT.wf ((by have q := hA.rn ([11] ++ (lookT (M 37 o))); rw [← rnL_app] at q; exact q)))) ?_
        refine x_iload_n (dtk dt_X12_part0 37 (64, .iload_n 1, 1) rfl) rfl ?_
        refine x_iald (dtk dt_X12_part0 38 (65, .iaload, 1) rfl) (wk_38 hA.wf) ⟨by omega, by omega⟩ ?_
        try simp only [ranM_x (show (38 : Int) ≠ 36 ∧ (38 : Int) ≠ 45 by decide), rnL_x (show (38 : Int) ≠ 36 ∧ (38 : Int) ≠ 45 by decide)]
        rw [hA.sz]
        refine w_imul (dtk dt_X12_part0 39 (66, .imul, 1) rfl) ?_
        refine x_istore_n (dtk dt_X12_part0 40 (67, .istore_n 3, 1) rfl) (by decide) ?_
        refine x_aload_n (dtk dt_X12_part0 41 (68, .aload_n 0, 1) rfl) rfl ?_
        refine fg_X12_7 rfl (dtk dt_X12_part0 42 (69, .getfield 7, 3) rfl) (wk_36 hA.wf) (by first | exact wm_36_1 (AT.wf ((by have q := hA.rn ([40, 60, 11] ++ (lookT (M 37 o))); rw [← rnL_app] at q; exact q))) | exact wm_36_1 (AT.wf ((by have q := hA.rn ([40, 11] ++ (lookT (M 37 o))); rw [← rnL_app] at q; exact q))) | exact wm_36_1 (AT.wf ((by have q := hA.rn ([60, 11] ++ (lookT (M 37 o))); rw [← rnL_app] at q; exact q))) | exact wm_36_1 (AT.wf ((by have q := hA.rn ([11] ++ (lookT (M 37 o))); rw [← rnL_app] at q; exact q)))) ?_
        refine x_iload_n (dtk dt_X12_part0 43 (72, .iload_n 1, 1) rfl) rfl ?_
        refine x_iald (dtk dt_X12_part0 44 (73, .iaload, 1) rfl) (wk_37 hA.wf) ⟨by omega, by omega⟩ ?_
        try simp only [ranM_x (show (37 : Int) ≠ 36 ∧ (37 : Int) ≠ 45 by decide), rnL_x (show (37 : Int) ≠ 36 ∧ (37 : Int) ≠ 45 by decide)]
        refine x_iconst (v := 3) ⟨by decide, by decide⟩ (dtk dt_X12_part0 45 (74, .iconst 3, 1) rfl) ?_
        refine x_icmp_ne (tgt := 88) (dtk dt_X12_part0 46 (75, .if_icmp .ne 13, 3) rfl) (by decide) (fun c75 => ?_) (fun c75 => ?_)
        · skip
          refine x_iload_n (dtk dt_X12_part0 53 (88, .iload_n 3, 1) rfl) rfl ?_
          exact r_i (dtk dt_X12_part0 54 (89, .ireturn, 1) rfl) rfl (by unfold partR; simp_all) (by unfold partT; simp_all [← rnL_app] <;> rfl)
        · skip
          refine x_iload_n (dtk dt_X12_part0 47 (78, .iload_n 3, 1) rfl) rfl ?_
          refine x_aload_n (dtk dt_X12_part0 48 (79, .aload_n 0, 1) rfl) rfl ?_
          refine x_iload_n (dtk dt_X12_part0 49 (80, .iload_n 1, 1) rfl) rfl ?_
          refine kc_X12_228 rfl (dtk dt_X12_part0 50 (81, .invokevirtual 228, 3) rfl) (c_X12_pairsOf (G := G)  (by first | exact (by have q := hA.rn ([40, 60, 11] ++ (lookT (M 37 o))); rw [← rnL_app] at q; exact q) | exact (by have q := hA.rn ([40, 11] ++ (lookT (M 37 o))); rw [← rnL_app] at q; exact q) | exact (by have q := hA.rn ([60, 11] ++ (lookT (M 37 o))); rw [← rnL_app] at q; exact q) | exact (by have q := hA.rn ([11] ++ (lookT (M 37 o))); rw [← rnL_app] at q; exact q))) rfl rfl (wk_36 hA.wf) (fitR (by decide) (by decide)) (Nat.le_of_ble_eq_true rfl) (pqK ?_)
          refine w_isub (dtk dt_X12_part0 51 (84, .isub, 1) rfl) ?_
          refine x_goto (tgt := 89) (dtk dt_X12_part0 52 (85, .goto 4, 3) rfl) (by decide) ?_
          exact r_i (dtk dt_X12_part0 54 (89, .ireturn, 1) rfl) rfl (by unfold partR; simp_all) (by unfold partT; simp_all [← rnL_app] <;> rfl)
      · skip
        refine x_iload_n (dtk dt_X12_part0 29 (50, .iload_n 2, 1) rfl) rfl ?_
        refine x_iconst (v := 2) ⟨by decide, by decide⟩ (dtk dt_X12_part0 30 (51, .iconst 2, 1) rfl) ?_
        refine w_iadd (dtk dt_X12_part0 31 (52, .iadd, 1) rfl) ?_
        refine x_goto (tgt := 57) (dtk dt_X12_part0 32 (53, .goto 4, 3) rfl) (by decide) ?_
        refine kc_X12_272 rfl (dtk dt_X12_part0 34 (57, .invokevirtual 272, 3) rfl) (c_X12_look0 (G := G)  (by first | exact hA.rn [40, 60, 11] | exact hA.rn [40, 11] | exact hA.rn [60, 11] | exact hA.rn [11]) (by first | (show 0 ≤ rnL M [40, 60, 11] 36 14 ∧ rnL M [40, 60, 11] 36 14 ≤ 50; rw [rnL_14]; simp; omega) | (show 0 ≤ rnL M [40, 11] 36 14 ∧ rnL M [40, 11] 36 14 ≤ 50; rw [rnL_14]; simp; omega) | (show 0 ≤ rnL M [60, 11] 36 14 ∧ rnL M [60, 11] 36 14 ≤ 50; rw [rnL_14]; simp; omega) | (show 0 ≤ rnL M [11] 36 14 ∧ rnL M [11] 36 14 ≤ 50; rw [rnL_14]; simp; omega))) rfl rfl (wk_36 hA.wf) (fitR (by decide) (by decide)) (Nat.le_of_ble_eq_true rfl) (pqK ?_)
        try simp only [ranM_x (show (37 : Int) ≠ 36 ∧ (37 : Int) ≠ 45 by decide), rnL_x (show (37 : Int) ≠ 36 ∧ (37 : Int) ≠ 45 by decide)]
        refine x_aload_n (dtk dt_X12_part0 35 (60, .aload_n 0, 1) rfl) rfl ?_
        refine fg_X12_13 rfl (dtk dt_X12_part0 36 (61, .getfield 13, 3) rfl) (wk_36 hA.wf) (by first | exact wm_36_2 (AT.wf ((by have q := hA.rn ([40, 60, 11] ++ (lookT (M 37 o))); rw [← rnL_app] at q; exact q))) | exact wm_36_2 (AT.wf ((by have q := hA.rn ([40, 11] ++ (lookT (M 37 o))); rw [← rnL_app] at q; exact q))) | exact wm_36_2 (AT.wf ((by have q := hA.rn ([60, 11] ++ (lookT (M 37 o))); rw [← rnL_app] at q; exact q))) | exact wm_36_2 (AT.wf ((by have q := hA.rn ([11] ++ (lookT (M 37 o))); rw [← rnL_app] at q; exact q)))) ?_
        refine x_iload_n (dtk dt_X12_part0 37 (64, .iload_n 1, 1) rfl) rfl ?_
        refine x_iald (dtk dt_X12_part0 38 (65, .iaload, 1) rfl) (wk_38 hA.wf) ⟨by omega, by omega⟩ ?_
        try simp only [ranM_x (show (38 : Int) ≠ 36 ∧ (38 : Int) ≠ 45 by decide), rnL_x (show (38 : Int) ≠ 36 ∧ (38 : Int) ≠ 45 by decide)]
        rw [hA.sz]
        refine w_imul (dtk dt_X12_part0 39 (66, .imul, 1) rfl) ?_
        refine x_istore_n (dtk dt_X12_part0 40 (67, .istore_n 3, 1) rfl) (by decide) ?_
        refine x_aload_n (dtk dt_X12_part0 41 (68, .aload_n 0, 1) rfl) rfl ?_
        refine fg_X12_7 rfl (dtk dt_X12_part0 42 (69, .getfield 7, 3) rfl) (wk_36 hA.wf) (by first | exact wm_36_1 (AT.wf ((by have q := hA.rn ([40, 60, 11] ++ (lookT (M 37 o))); rw [← rnL_app] at q; exact q))) | exact wm_36_1 (AT.wf ((by have q := hA.rn ([40, 11] ++ (lookT (M 37 o))); rw [← rnL_app] at q; exact q))) | exact wm_36_1 (AT.wf ((by have q := hA.rn ([60, 11] ++ (lookT (M 37 o))); rw [← rnL_app] at q; exact q))) | exact wm_36_1 (AT.wf ((by have q := hA.rn ([11] ++ (lookT (M 37 o))); rw [← rnL_app] at q; exact q)))) ?_
        refine x_iload_n (dtk dt_X12_part0 43 (72, .iload_n 1, 1) rfl) rfl ?_
        refine x_iald (dtk dt_X12_part0 44 (73, .iaload, 1) rfl) (wk_37 hA.wf) ⟨by omega, by omega⟩ ?_
        try simp only [ranM_x (show (37 : Int) ≠ 36 ∧ (37 : Int) ≠ 45 by decide), rnL_x (show (37 : Int) ≠ 36 ∧ (37 : Int) ≠ 45 by decide)]
        refine x_iconst (v := 3) ⟨by decide, by decide⟩ (dtk dt_X12_part0 45 (74, .iconst 3, 1) rfl) ?_
        refine x_icmp_ne (tgt := 88) (dtk dt_X12_part0 46 (75, .if_icmp .ne 13, 3) rfl) (by decide) (fun c75 => ?_) (fun c75 => ?_)
        · skip
          refine x_iload_n (dtk dt_X12_part0 53 (88, .iload_n 3, 1) rfl) rfl ?_
          exact r_i (dtk dt_X12_part0 54 (89, .ireturn, 1) rfl) rfl (by unfold partR; simp_all) (by unfold partT; simp_all [← rnL_app] <;> rfl)
        · skip
          refine x_iload_n (dtk dt_X12_part0 47 (78, .iload_n 3, 1) rfl) rfl ?_
          refine x_aload_n (dtk dt_X12_part0 48 (79, .aload_n 0, 1) rfl) rfl ?_
          refine x_iload_n (dtk dt_X12_part0 49 (80, .iload_n 1, 1) rfl) rfl ?_
          refine kc_X12_228 rfl (dtk dt_X12_part0 50 (81, .invokevirtual 228, 3) rfl) (c_X12_pairsOf (G := G)  (by first | exact (by have q := hA.rn ([40, 60, 11] ++ (lookT (M 37 o))); rw [← rnL_app] at q; exact q) | exact (by have q := hA.rn ([40, 11] ++ (lookT (M 37 o))); rw [← rnL_app] at q; exact q) | exact (by have q := hA.rn ([60, 11] ++ (lookT (M 37 o))); rw [← rnL_app] at q; exact q) | exact (by have q := hA.rn ([11] ++ (lookT (M 37 o))); rw [← rnL_app] at q; exact q))) rfl rfl (wk_36 hA.wf) (fitR (by decide) (by decide)) (Nat.le_of_ble_eq_true rfl) (pqK ?_)
          refine w_isub (dtk dt_X12_part0 51 (84, .isub, 1) rfl) ?_
          refine x_goto (tgt := 89) (dtk dt_X12_part0 52 (85, .goto 4, 3) rfl) (by decide) ?_
          exact r_i (dtk dt_X12_part0 54 (89, .ireturn, 1) rfl) rfl (by unfold partR; simp_all) (by unfold partT; simp_all [← rnL_app] <;> rfl)
