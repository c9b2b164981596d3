/-! ===== the class: its answers ===== -/
set_option maxRecDepth 100000 in
set_option maxHeartbeats 4000000 in
theorem c_X11_find {G : GG} {n : Nat} {K : KK} {M : MM} {o : Int} (hw : WF K M) (ho : 0 ≤ o ∧ o < M 0 1) (h8 : M 0 1 ≤ 8) : MC G mi_X11_find 1 0 0 [(1, 0), (0, o)] n K M (PQ (some (1, M 1 o)) n K (M)) := by
  refine MC.intro (lc := [(0, (1, 0)), (1, (0, o))]) (by decide) rfl (by simp [Nat.ble]) (Nat.le_of_ble_eq_true rfl) rfl (fun hMR => ?_)
  refine x_iload_n (dtk dt_X11_find 0 (0, .iload_n 1, 1) rfl) rfl ?_
  refine x_if_lt (tgt := 21) (dtk dt_X11_find 1 (1, .ifCond .lt 20, 3) rfl) (by decide) (fun c1 => ?_) (fun c1 => ?_)
  · skip
    exact absurd c1 (by omega)
  · skip
    refine x_iload_n (dtk dt_X11_find 2 (4, .iload_n 1, 1) rfl) rfl ?_
    refine x_aload_n (dtk dt_X11_find 3 (5, .aload_n 0, 1) rfl) rfl ?_
    refine fg_X11_15 rfl (dtk dt_X11_find 4 (6, .getfield 15, 3) rfl) (wk_0 hw) rfl ?_
    refine x_icmp_ge (tgt := 21) (dtk dt_X11_find 5 (9, .if_icmp .ge 12, 3) rfl) (by decide) (fun c9 => ?_) (fun c9 => ?_)
    · skip
      exact absurd c9 (by omega)
    · skip
      refine x_aload_n (dtk dt_X11_find 6 (12, .aload_n 0, 1) rfl) rfl ?_
      refine fg_X11_11 rfl (dtk dt_X11_find 7 (13, .getfield 11, 3) rfl) (wk_0 hw) (wm_0_0 hw) ?_
      refine x_iload_n (dtk dt_X11_find 8 (16, .iload_n 1, 1) rfl) rfl ?_
      refine x_aald (dtk dt_X11_find 9 (17, .aaload, 1) rfl) (Or.inl rfl) (wk_1 hw) ⟨by omega, by omega⟩ ?_
      refine x_goto (tgt := 22) (dtk dt_X11_find 10 (18, .goto 4, 3) rfl) (by decide) ?_
      exact r_a (dtk dt_X11_find 12 (22, .areturn, 1) rfl) rfl rfl rfl
set_option maxRecDepth 100000 in
set_option maxHeartbeats 4000000 in
theorem c_X11_find_no {G : GG} {n : Nat} {K : KK} {M : MM} {o : Int} (hw : WF K M) (ho : ¬ (0 ≤ o ∧ o < M 0 1)) : MC G mi_X11_find 1 0 0 [(1, 0), (0, o)] n K M (PQ (some (1, -1)) n K (M)) := by
  refine MC.intro (lc := [(0, (1, 0)), (1, (0, o))]) (by decide) rfl (by simp [Nat.ble]) (Nat.le_of_ble_eq_true rfl) rfl (fun hMR => ?_)
  refine x_iload_n (dtk dt_X11_find 0 (0, .iload_n 1, 1) rfl) rfl ?_
  refine x_if_lt (tgt := 21) (dtk dt_X11_find 1 (1, .ifCond .lt 20, 3) rfl) (by decide) (fun c1 => ?_) (fun c1 => ?_)
  · skip
    refine x_null (dtk dt_X11_find 11 (21, .aconst_null, 1) rfl) ?_
    exact r_a (dtk dt_X11_find 12 (22, .areturn, 1) rfl) rfl rfl rfl
  · skip
    refine x_iload_n (dtk dt_X11_find 2 (4, .iload_n 1, 1) rfl) rfl ?_
    refine x_aload_n (dtk dt_X11_find 3 (5, .aload_n 0, 1) rfl) rfl ?_
    refine fg_X11_15 rfl (dtk dt_X11_find 4 (6, .getfield 15, 3) rfl) (wk_0 hw) rfl ?_
    refine x_icmp_ge (tgt := 21) (dtk dt_X11_find 5 (9, .if_icmp .ge 12, 3) rfl) (by decide) (fun c9 => ?_) (fun c9 => ?_)
    · skip
      refine x_null (dtk dt_X11_find 11 (21, .aconst_null, 1) rfl) ?_
      exact r_a (dtk dt_X11_find 12 (22, .areturn, 1) rfl) rfl rfl rfl
    · skip
      exact absurd ho (by omega)
set_option maxRecDepth 100000 in
set_option maxHeartbeats 4000000 in
theorem c_X11_status {G : GG} {n : Nat} {K : KK} {M : MM}  (hw : WF K M) : MC G mi_X11_status 1 0 0 [(1, 0)] n K M (PQ (some (0, M 0 11)) n K (M)) := by
  refine MC.intro (lc := [(0, (1, 0))]) (by decide) rfl (by simp [Nat.ble]) (Nat.le_of_ble_eq_true rfl) rfl (fun hMR => ?_)
  refine x_aload_n (dtk dt_X11_status 0 (0, .aload_n 0, 1) rfl) rfl ?_
  refine fg_X11_67 rfl (dtk dt_X11_status 1 (1, .getfield 67, 3) rfl) (wk_0 hw) rfl ?_
  exact r_i (dtk dt_X11_status 2 (4, .ireturn, 1) rfl) rfl rfl rfl
set_option maxRecDepth 100000 in
set_option maxHeartbeats 4000000 in
theorem c_X11_refuse {G : GG} {n : Nat} {K : KK} {M : MM} {w : Int} (hw : WF K M) : MC G mi_X11_refuse 1 0 0 [(1, 0), (0, w)] n K M (PQ (some (0, -1)) n K (st2 M 0 11 w)) := by
  refine MC.intro (lc := [(0, (1, 0)), (1, (0, w))]) (by decide) rfl (by simp [Nat.ble]) (Nat.le_of_ble_eq_true rfl) rfl (fun hMR => ?_)
  refine x_aload_n (dtk dt_X11_refuse 0 (0, .aload_n 0, 1) rfl) rfl ?_
  refine x_iload_n (dtk dt_X11_refuse 1 (1, .iload_n 1, 1) rfl) rfl ?_
  refine fp_X11_67 rfl (dtk dt_X11_refuse 2 (2, .putfield 67, 3) rfl) (wk_0 hw) ?_
  refine x_iconst (v := -1) ⟨by decide, by decide⟩ (dtk dt_X11_refuse 3 (5, .iconst (-1), 1) rfl) ?_
  exact r_i (dtk dt_X11_refuse 4 (6, .ireturn, 1) rfl) rfl rfl rfl
set_option maxRecDepth 100000 in
set_option maxHeartbeats 4000000 in
theorem c_X11_answer {G : GG} {n : Nat} {K : KK} {M : MM} {v : Int} (hw : WF K M) : MC G mi_X11_answer 1 0 0 [(1, 0), (0, v)] n K M (PQ (some (0, v)) n K (st2 M 0 11 0)) := by
  refine MC.intro (lc := [(0, (1, 0)), (1, (0, v))]) (by decide) rfl (by simp [Nat.ble]) (Nat.le_of_ble_eq_true rfl) rfl (fun hMR => ?_)
  refine x_aload_n (dtk dt_X11_answer 0 (0, .aload_n 0, 1) rfl) rfl ?_
  refine x_iconst (v := 0) ⟨by decide, by decide⟩ (dtk dt_X11_answer 1 (1, .iconst 0, 1) rfl) ?_
  refine fp_X11_67 rfl (dtk dt_X11_answer 2 (2, .putfield 67, 3) rfl) (wk_0 hw) ?_
  refine x_iload_n (dtk dt_X11_answer 3 (5, .iload_n 1, 1) rfl) rfl ?_
  exact r_i (dtk dt_X11_answer 4 (6, .ireturn, 1) rfl) rfl rfl rfl
set_option maxRecDepth 100000 in
set_option maxHeartbeats 4000000 in
theorem c_X11_hasRoom {G : GG} {n : Nat} {K : KK} {M : MM} {q : Int} (hw : WF K M) : MC G mi_X11_hasRoom 1 0 0 [(1, 0), (0, q)] n K M (PQ (some (0, B (decide (M 0 1 < 8) && decide (q ≤ 10)))) n K (M)) := by
  refine MC.intro (lc := [(0, (1, 0)), (1, (0, q))]) (by decide) rfl (by simp [Nat.ble]) (Nat.le_of_ble_eq_true rfl) rfl (fun hMR => ?_)
  refine x_aload_n (dtk dt_X11_hasRoom 0 (0, .aload_n 0, 1) rfl) rfl ?_
  refine fg_X11_15 rfl (dtk dt_X11_hasRoom 1 (1, .getfield 15, 3) rfl) (wk_0 hw) rfl ?_
  refine x_bipush (v := 8) ⟨by decide, by decide⟩ (dtk dt_X11_hasRoom 2 (4, .bipush 8, 2) rfl) ?_
  refine x_icmp_ge (tgt := 19) (dtk dt_X11_hasRoom 3 (6, .if_icmp .ge 13, 3) rfl) (by decide) (fun c6 => ?_) (fun c6 => ?_)
  · skip
    refine x_iconst (v := 0) ⟨by decide, by decide⟩ (dtk dt_X11_hasRoom 9 (19, .iconst 0, 1) rfl) ?_
    exact r_b (b := false) (dtk dt_X11_hasRoom 10 (20, .ireturn, 1) rfl) rfl (by simp; omega) rfl
  · skip
    refine x_iload_n (dtk dt_X11_hasRoom 4 (9, .iload_n 1, 1) rfl) rfl ?_
    refine x_bipush (v := 10) ⟨by decide, by decide⟩ (dtk dt_X11_hasRoom 5 (10, .bipush 10, 2) rfl) ?_
    refine x_icmp_gt (tgt := 19) (dtk dt_X11_hasRoom 6 (12, .if_icmp .gt 7, 3) rfl) (by decide) (fun c12 => ?_) (fun c12 => ?_)
    · skip
      refine x_iconst (v := 0) ⟨by decide, by decide⟩ (dtk dt_X11_hasRoom 9 (19, .iconst 0, 1) rfl) ?_
      exact r_b (b := false) (dtk dt_X11_hasRoom 10 (20, .ireturn, 1) rfl) rfl (by simp; omega) rfl
    · skip
      refine x_iconst (v := 1) ⟨by decide, by decide⟩ (dtk dt_X11_hasRoom 7 (15, .iconst 1, 1) rfl) ?_
      refine x_goto (tgt := 20) (dtk dt_X11_hasRoom 8 (16, .goto 4, 3) rfl) (by decide) ?_
      exact r_b (b := true) (dtk dt_X11_hasRoom 10 (20, .ireturn, 1) rfl) rfl (by simp; omega) rfl
set_option maxRecDepth 100000 in
set_option maxHeartbeats 4000000 in
theorem c_X11_count {G : GG} {n : Nat} {K : KK} {M : MM} {w : Int} (hL : LK K M) : MC G mi_X11_count 1 0 0 [(1, 0), (0, w)] n K M (PQ (some (0, if w = 0 then M 36 0 else if w = 1 then M 36 5 else if w = 2 then (if M 36 5 = 0 then -1 else M 36 4) else if w = 3 then M 36 14 else -1)) n K (M)) := by
  refine MC.intro (lc := [(0, (1, 0)), (1, (0, w))]) (by decide) rfl (by simp [Nat.ble]) (Nat.le_of_ble_eq_true rfl) rfl (fun hMR => ?_)
  refine x_iload_n (dtk dt_X11_count 0 (0, .iload_n 1, 1) rfl) rfl ?_
  by_cases s1_0 : w = 0
  · skip
    refine x_tsIn (tgt := 32) (off := 31) (dtk dt_X11_count 1 (1, .tableswitch 57 0 3 #[31, 36, 44, 49], 31) rfl) (by omega) (by omega) (by rw [s1_0]; rfl) (by decide) ?_
    refine x_aload_n (dtk dt_X11_count 2 (32, .aload_n 0, 1) rfl) rfl ?_
    refine fg_X11_15 rfl (dtk dt_X11_count 3 (33, .getfield 15, 3) rfl) (wk_0 hL.wf) rfl ?_
    exact r_i (dtk dt_X11_count 4 (36, .ireturn, 1) rfl) rfl (by have z1 := hL.cnt; have z2 := hL.lh.2.1; have z3 := hL.lh.2.2.2; have z4 := hL.lt.1.1; simp_all) rfl
  by_cases s1_1 : w = 1
  · skip
    refine x_tsIn (tgt := 37) (off := 36) (dtk dt_X11_count 1 (1, .tableswitch 57 0 3 #[31, 36, 44, 49], 31) rfl) (by omega) (by omega) (by rw [s1_1]; rfl) (by decide) ?_
    refine x_aload_n (dtk dt_X11_count 5 (37, .aload_n 0, 1) rfl) rfl ?_
    refine fg_X11_28 rfl (dtk dt_X11_count 6 (38, .getfield 28, 3) rfl) (wk_0 hL.wf) (wm_0_3 hL.wf) ?_
    refine fg_X11_199 rfl (dtk dt_X11_count 7 (41, .getfield 199, 3) rfl) (wk_4 hL.wf) rfl ?_
    exact r_i (dtk dt_X11_count 8 (44, .ireturn, 1) rfl) rfl (by have z1 := hL.cnt; have z2 := hL.lh.2.1; have z3 := hL.lh.2.2.2; have z4 := hL.lt.1.1; simp_all) rfl
  by_cases s1_2 : w = 2
  · skip
    refine x_tsIn (tgt := 45) (off := 44) (dtk dt_X11_count 1 (1, .tableswitch 57 0 3 #[31, 36, 44, 49], 31) rfl) (by omega) (by omega) (by rw [s1_2]; rfl) (by decide) ?_
    refine x_aload_n (dtk dt_X11_count 9 (45, .aload_n 0, 1) rfl) rfl ?_
    refine fg_X11_31 rfl (dtk dt_X11_count 10 (46, .getfield 31, 3) rfl) (wk_0 hL.wf) rfl ?_
    exact r_i (dtk dt_X11_count 11 (49, .ireturn, 1) rfl) rfl (by have z1 := hL.cnt; have z2 := hL.lh.2.1; have z3 := hL.lh.2.2.2; have z4 := hL.lt.1.1; simp_all) rfl
  by_cases s1_3 : w = 3
  · skip
    refine x_tsIn (tgt := 50) (off := 49) (dtk dt_X11_count 1 (1, .tableswitch 57 0 3 #[31, 36, 44, 49], 31) rfl) (by omega) (by omega) (by rw [s1_3]; rfl) (by decide) ?_
    refine x_aload_n (dtk dt_X11_count 12 (50, .aload_n 0, 1) rfl) rfl ?_
    refine fg_X11_34 rfl (dtk dt_X11_count 13 (51, .getfield 34, 3) rfl) (wk_0 hL.wf) (wm_0_5 hL.wf) ?_
    refine fg_X11_199 rfl (dtk dt_X11_count 14 (54, .getfield 199, 3) rfl) (wk_6 hL.wf) rfl ?_
    exact r_i (dtk dt_X11_count 15 (57, .ireturn, 1) rfl) rfl (by have z1 := hL.cnt; have z2 := hL.lh.2.1; have z3 := hL.lh.2.2.2; have z4 := hL.lt.1.1; simp_all) rfl
  refine x_tsOut (tgt := 58) (dtk dt_X11_count 1 (1, .tableswitch 57 0 3 #[31, 36, 44, 49], 31) rfl) (by omega) (by decide) ?_
  refine x_iconst (v := -1) ⟨by decide, by decide⟩ (dtk dt_X11_count 16 (58, .iconst (-1), 1) rfl) ?_
  exact r_i (dtk dt_X11_count 17 (59, .ireturn, 1) rfl) rfl (by have z1 := hL.cnt; have z2 := hL.lh.2.1; have z3 := hL.lh.2.2.2; have z4 := hL.lt.1.1; simp_all) rfl
set_option maxRecDepth 100000 in
set_option maxHeartbeats 4000000 in
theorem c_X11_round {G : GG} {n : Nat} {K : KK} {M : MM} {i : Int} (hL : LK K M) : MC G mi_X11_round 2 0 0 [(1, 0), (0, i)] n K M (PQ (some (0, if 0 ≤ i ∧ i < M 36 7 then M 41 i else -1)) n K (M)) := by
  refine MC.intro (lc := [(0, (1, 0)), (1, (0, i))]) (by decide) rfl (by simp [Nat.ble]) (Nat.le_of_ble_eq_true rfl) rfl (fun hMR => ?_)
  refine x_aload_n (dtk dt_X11_round 0 (0, .aload_n 0, 1) rfl) rfl ?_
  refine fg_X11_24 rfl (dtk dt_X11_round 1 (1, .getfield 24, 3) rfl) (wk_0 hL.wf) (wm_0_2 hL.wf) ?_
  refine x_iload_n (dtk dt_X11_round 2 (4, .iload_n 1, 1) rfl) rfl ?_
  refine kc_X11_114 rfl (dtk dt_X11_round 3 (5, .invokevirtual 114, 3) rfl) (c_X3_at (G := G)  (ln_2 hL.wf (by have z := hL.lp.1; omega))) rfl rfl (wk_2 hL.wf) (fitR (by decide) (by decide)) (Nat.le_of_ble_eq_true rfl) (pqK ?_)
  change MW G _ _ _ _ _ _ ((0, if 0 ≤ i ∧ i < M 2 1 then M 3 i else -1) :: _) _ _ _
  exact r_i (dtk dt_X11_round 4 (8, .ireturn, 1) rfl) rfl (by rw [hL.lp.1.1]; by_cases hq : 0 ≤ i ∧ i < M 36 7; (rw [if_pos hq, if_pos hq]; exact hL.lp.2 i hq.1 hq.2); (rw [if_neg hq, if_neg hq])) rfl
set_option maxRecDepth 100000 in
set_option maxHeartbeats 4000000 in
theorem c_X11_trace {G : GG} {n : Nat} {K : KK} {M : MM} {i : Int} (hL : LK K M) : MC G mi_X11_trace 2 0 0 [(1, 0), (0, i)] n K M (PQ (some (0, if 0 ≤ i ∧ i < M 36 14 then M 45 i else -1)) n K (M)) := by
  refine MC.intro (lc := [(0, (1, 0)), (1, (0, i))]) (by decide) rfl (by simp [Nat.ble]) (Nat.le_of_ble_eq_true rfl) rfl (fun hMR => ?_)
  refine x_aload_n (dtk dt_X11_trace 0 (0, .aload_n 0, 1) rfl) rfl ?_
  refine fg_X11_34 rfl (dtk dt_X11_trace 1 (1, .getfield 34, 3) rfl) (wk_0 hL.wf) (wm_0_5 hL.wf) ?_
  refine x_iload_n (dtk dt_X11_trace 2 (4, .iload_n 1, 1) rfl) rfl ?_
  refine kc_X11_114 rfl (dtk dt_X11_trace 3 (5, .invokevirtual 114, 3) rfl) (c_X3_at (G := G)  (ln_6 hL.wf (by have z := hL.lt.1; omega))) rfl rfl (wk_6 hL.wf) (fitR (by decide) (by decide)) (Nat.le_of_ble_eq_true rfl) (pqK ?_)
  change MW G _ _ _ _ _ _ ((0, if 0 ≤ i ∧ i < M 6 1 then M 7 i else -1) :: _) _ _ _
  exact r_i (dtk dt_X11_trace 4 (8, .ireturn, 1) rfl) rfl (by rw [hL.lt.1.1]; by_cases hq : 0 ≤ i ∧ i < M 36 14; (rw [if_pos hq, if_pos hq]; exact hL.lt.2 i hq.1 hq.2); (rw [if_neg hq, if_neg hq])) rfl
set_option maxRecDepth 100000 in
set_option maxHeartbeats 4000000 in
theorem c_X11_below {G : GG} {n : Nat} {K : KK} {M : MM} {o a b : Int} (hL : LK K M) : MC G mi_X11_below 5 0 0 [(1, 0), (0, o), (0, a), (0, b)] n K M (PQ (some (0, if isTh M o a && isTh M o b then (if nxt (M 38 o) (dM M o) a b then 2 else if rel (dM M o) a b then 1 else 0) else -1)) n K (M)) := by
  refine MC.intro (lc := [(0, (1, 0)), (1, (0, o)), (2, (0, a)), (3, (0, b))]) (by decide) rfl (by simp [Nat.ble]) (Nat.le_of_ble_eq_true rfl) rfl (fun hMR => ?_)
  refine x_aload_n (dtk dt_X11_below 0 (0, .aload_n 0, 1) rfl) rfl ?_
  refine x_iload_n (dtk dt_X11_below 1 (1, .iload_n 1, 1) rfl) rfl ?_
  by_cases hsp2_0 : 0 ≤ o ∧ o < M 36 0
  · skip
    refine kc_X11_86 rfl (dtk dt_X11_below 2 (2, .invokevirtual 86, 3) rfl) (c_X11_find (G := G)  hL.wf (by rw [hL.cnt]; exact hsp2_0) (by rw [hL.cnt]; exact hL.c8.2)) rfl rfl (wk_0 hL.wf) (fitR (by decide) (by decide)) (Nat.le_of_ble_eq_true rfl) (pqK ?_)
    have hO := hL.ob hsp2_0
    have hOg := hO.ge
    have hOs := hO.sz
    have hOP := hL.po hsp2_0
    have hOi := isOr_y hsp2_0
    refine x_astore (dtk dt_X11_below 3 (5, .astore 4, 2) rfl) (by decide) ?_
    refine x_aload (dtk dt_X11_below 4 (7, .aload 4, 2) rfl) rfl ?_
    refine x_ifnull (tgt := 22) (dtk dt_X11_below 5 (9, .ifnull 13, 3) rfl) (by decide) (fun c9 => ?_) (fun c9 => ?_)
    · exact absurd c9 (by omega)
    refine x_aload (dtk dt_X11_below 6 (12, .aload 4, 2) rfl) rfl ?_
    refine x_iload_n (dtk dt_X11_below 7 (14, .iload_n 2, 1) rfl) rfl ?_
    refine x_iload_n (dtk dt_X11_below 8 (15, .iload_n 3, 1) rfl) rfl ?_
    refine kc_X11_90 rfl (dtk dt_X11_below 9 (16, .invokevirtual 90, 3) rfl) (c_X4_hasThings (G := G)  hO) rfl rfl hO.k hO.c (fitR (by decide) (by decide)) (Nat.le_of_ble_eq_true rfl) (pqK ?_)
    refine x_if_neB (tgt := 24) (dtk dt_X11_below 10 (19, .ifCond .ne 5, 3) rfl) (by decide) (fun c19 => ?_) (fun c19 => ?_)
    · skip
      have hin : (0 ≤ a ∧ a < M 38 o) ∧ (0 ≤ b ∧ b < M 38 o) := by simpa [and_assoc] using c19
      refine x_aload (dtk dt_X11_below 13 (24, .aload 4, 2) rfl) rfl ?_
      refine x_iload_n (dtk dt_X11_below 14 (26, .iload_n 2, 1) rfl) rfl ?_
      refine x_iload_n (dtk dt_X11_below 15 (27, .iload_n 3, 1) rfl) rfl ?_
      refine kc_X11_202 rfl (dtk dt_X11_below 16 (28, .invokevirtual 202, 3) rfl) (c_X4_isNext (G := G)  hO (by omega) (by omega)) rfl rfl hO.k hO.c (fitR (by decide) (by decide)) (Nat.le_of_ble_eq_true rfl) (pqK ?_)
      refine x_if_eqB (tgt := 36) (dtk dt_X11_below 17 (31, .ifCond .eq 5, 3) rfl) (by decide) (fun c31 => ?_) (fun c31 => ?_)
      · skip
        refine x_aload (dtk dt_X11_below 20 (36, .aload 4, 2) rfl) rfl ?_
        refine x_iload_n (dtk dt_X11_below 21 (38, .iload_n 2, 1) rfl) rfl ?_
        refine x_iload_n (dtk dt_X11_below 22 (39, .iload_n 3, 1) rfl) rfl ?_
        refine kc_X11_98 rfl (dtk dt_X11_below 23 (40, .invokevirtual 98, 3) rfl) (c_X4_isBelow (G := G)  hO (by omega) (by omega)) rfl rfl hO.k hO.c (fitR (by decide) (by decide)) (Nat.le_of_ble_eq_true rfl) (pqK ?_)
        refine x_if_eqB (tgt := 50) (dtk dt_X11_below 24 (43, .ifCond .eq 7, 3) rfl) (by decide) (fun c43 => ?_) (fun c43 => ?_)
        · skip
          refine x_iconst (v := 0) ⟨by decide, by decide⟩ (dtk dt_X11_below 27 (50, .iconst 0, 1) rfl) ?_
          exact r_i (dtk dt_X11_below 28 (51, .ireturn, 1) rfl) rfl (by rw [if_pos (by rw [isTh_y hsp2_0, isTh_y hsp2_0]; exact c19)]; simp_all) rfl
        · skip
          refine x_iconst (v := 1) ⟨by decide, by decide⟩ (dtk dt_X11_below 25 (46, .iconst 1, 1) rfl) ?_
          refine x_goto (tgt := 51) (dtk dt_X11_below 26 (47, .goto 4, 3) rfl) (by decide) ?_
          exact r_i (dtk dt_X11_below 28 (51, .ireturn, 1) rfl) rfl (by rw [if_pos (by rw [isTh_y hsp2_0, isTh_y hsp2_0]; exact c19)]; simp_all) rfl
      · skip
        refine x_iconst (v := 2) ⟨by decide, by decide⟩ (dtk dt_X11_below 18 (34, .iconst 2, 1) rfl) ?_
        exact r_i (dtk dt_X11_below 19 (35, .ireturn, 1) rfl) rfl (by rw [if_pos (by rw [isTh_y hsp2_0, isTh_y hsp2_0]; exact c19)]; simp_all) rfl
    · skip
      refine x_iconst (v := -1) ⟨by decide, by decide⟩ (dtk dt_X11_below 11 (22, .iconst (-1), 1) rfl) ?_
      exact r_i (dtk dt_X11_below 12 (23, .ireturn, 1) rfl) rfl (by first | (rw [isTh_n hsp2_0]; rfl) | (rw [isTh_y hsp2_0, isTh_y hsp2_0, c19]; rfl)) rfl
  refine kc_X11_86 rfl (dtk dt_X11_below 2 (2, .invokevirtual 86, 3) rfl) (c_X11_find_no (G := G)  hL.wf (by rw [hL.cnt]; exact hsp2_0)) rfl rfl (wk_0 hL.wf) (fitR (by decide) (by decide)) (Nat.le_of_ble_eq_true rfl) (pqK ?_)
  have hOn := isOr_n hsp2_0
  refine x_astore (dtk dt_X11_below 3 (5, .astore 4, 2) rfl) (by decide) ?_
  refine x_aload (dtk dt_X11_below 4 (7, .aload 4, 2) rfl) rfl ?_
  refine x_ifnull (tgt := 22) (dtk dt_X11_below 5 (9, .ifnull 13, 3) rfl) (by decide) (fun c9 => ?_) (fun c9 => ?_)
  rotate_left
  · exact absurd c9 (by decide)
  refine x_iconst (v := -1) ⟨by decide, by decide⟩ (dtk dt_X11_below 11 (22, .iconst (-1), 1) rfl) ?_
  exact r_i (dtk dt_X11_below 12 (23, .ireturn, 1) rfl) rfl (by first | (rw [isTh_n hsp2_0]; rfl) | (rw [isTh_y hsp2_0, isTh_y hsp2_0, c19]; rfl)) rfl
set_option maxRecDepth 100000 in
set_option maxHeartbeats 4000000 in
theorem c_X11_widest {G : GG} {n : Nat} {K : KK} {M : MM} {o : Int} (hL : LK K M) : MC G mi_X11_widest 4 0 0 [(1, 0), (0, o)] n K M (PQ (some (0, if isOr M o then wide (M 38 o) (dM M o) else -1)) n K (M)) := by
  refine MC.intro (lc := [(0, (1, 0)), (1, (0, o))]) (by decide) rfl (by simp [Nat.ble]) (Nat.le_of_ble_eq_true rfl) rfl (fun hMR => ?_)
  refine x_aload_n (dtk dt_X11_widest 0 (0, .aload_n 0, 1) rfl) rfl ?_
  refine x_iload_n (dtk dt_X11_widest 1 (1, .iload_n 1, 1) rfl) rfl ?_
  by_cases hsp2_0 : 0 ≤ o ∧ o < M 36 0
  · skip
    refine kc_X11_86 rfl (dtk dt_X11_widest 2 (2, .invokevirtual 86, 3) rfl) (c_X11_find (G := G)  hL.wf (by rw [hL.cnt]; exact hsp2_0) (by rw [hL.cnt]; exact hL.c8.2)) rfl rfl (wk_0 hL.wf) (fitR (by decide) (by decide)) (Nat.le_of_ble_eq_true rfl) (pqK ?_)
    have hO := hL.ob hsp2_0
    have hOg := hO.ge
    have hOs := hO.sz
    have hOP := hL.po hsp2_0
    have hOi := isOr_y hsp2_0
    refine x_astore_n (dtk dt_X11_widest 3 (5, .astore_n 2, 1) rfl) (by decide) ?_
    refine x_aload_n (dtk dt_X11_widest 4 (6, .aload_n 2, 1) rfl) rfl ?_
    refine x_ifnonnull (tgt := 14) (dtk dt_X11_widest 5 (7, .ifnonnull 7, 3) rfl) (by decide) (fun c7 => ?_) (fun c7 => ?_)
    rotate_left
    · exact absurd c7 (by omega)
    refine x_aload_n (dtk dt_X11_widest 8 (14, .aload_n 2, 1) rfl) rfl ?_
    refine kc_X11_174 rfl (dtk dt_X11_widest 9 (15, .invokevirtual 174, 3) rfl) (c_X4_widestBits (G := G)  hO) rfl rfl hO.k hO.c (fitR (by decide) (by decide)) (Nat.le_of_ble_eq_true rfl) (pqK ?_)
    exact r_i (dtk dt_X11_widest 10 (18, .ireturn, 1) rfl) rfl (by simp_all) rfl
  refine kc_X11_86 rfl (dtk dt_X11_widest 2 (2, .invokevirtual 86, 3) rfl) (c_X11_find_no (G := G)  hL.wf (by rw [hL.cnt]; exact hsp2_0)) rfl rfl (wk_0 hL.wf) (fitR (by decide) (by decide)) (Nat.le_of_ble_eq_true rfl) (pqK ?_)
  have hOn := isOr_n hsp2_0
  refine x_astore_n (dtk dt_X11_widest 3 (5, .astore_n 2, 1) rfl) (by decide) ?_
  refine x_aload_n (dtk dt_X11_widest 4 (6, .aload_n 2, 1) rfl) rfl ?_
  refine x_ifnonnull (tgt := 14) (dtk dt_X11_widest 5 (7, .ifnonnull 7, 3) rfl) (by decide) (fun c7 => ?_) (fun c7 => ?_)
  · exact absurd c7 (by decide)
  refine x_iconst (v := -1) ⟨by decide, by decide⟩ (dtk dt_X11_widest 6 (10, .iconst (-1), 1) rfl) ?_
  refine x_goto (tgt := 18) (dtk dt_X11_widest 7 (11, .goto 7, 3) rfl) (by decide) ?_
  exact r_i (dtk dt_X11_widest 10 (18, .ireturn, 1) rfl) rfl (by simp_all) rfl
set_option maxRecDepth 100000 in
set_option maxHeartbeats 4000000 in
theorem c_X11_bent {G : GG} {n : Nat} {K : KK} {M : MM} {o : Int} (hL : LK K M) : MC G mi_X11_bent 7 0 0 [(1, 0), (0, o)] n K M (PQ (some (0, if isOr M o then bentC (M 38 o) (dM M o) else -1)) n K (M)) := by
  refine MC.intro (lc := [(0, (1, 0)), (1, (0, o))]) (by decide) rfl (by simp [Nat.ble]) (Nat.le_of_ble_eq_true rfl) rfl (fun hMR => ?_)
  refine x_aload_n (dtk dt_X11_bent 0 (0, .aload_n 0, 1) rfl) rfl ?_
  refine x_iload_n (dtk dt_X11_bent 1 (1, .iload_n 1, 1) rfl) rfl ?_
  by_cases hsp2_0 : 0 ≤ o ∧ o < M 36 0
  · skip
    refine kc_X11_86 rfl (dtk dt_X11_bent 2 (2, .invokevirtual 86, 3) rfl) (c_X11_find (G := G)  hL.wf (by rw [hL.cnt]; exact hsp2_0) (by rw [hL.cnt]; exact hL.c8.2)) rfl rfl (wk_0 hL.wf) (fitR (by decide) (by decide)) (Nat.le_of_ble_eq_true rfl) (pqK ?_)
    have hO := hL.ob hsp2_0
    have hOg := hO.ge
    have hOs := hO.sz
    have hOP := hL.po hsp2_0
    have hOi := isOr_y hsp2_0
    refine x_astore_n (dtk dt_X11_bent 3 (5, .astore_n 2, 1) rfl) (by decide) ?_
    refine x_aload_n (dtk dt_X11_bent 4 (6, .aload_n 2, 1) rfl) rfl ?_
    refine x_ifnonnull (tgt := 14) (dtk dt_X11_bent 5 (7, .ifnonnull 7, 3) rfl) (by decide) (fun c7 => ?_) (fun c7 => ?_)
    rotate_left
    · exact absurd c7 (by omega)
    refine x_aload_n (dtk dt_X11_bent 8 (14, .aload_n 2, 1) rfl) rfl ?_
    refine kc_X11_193 rfl (dtk dt_X11_bent 9 (15, .invokevirtual 193, 3) rfl) (c_X4_firstBent (G := G)  hO) rfl rfl hO.k hO.c (fitR (by decide) (by decide)) (Nat.le_of_ble_eq_true rfl) (pqK ?_)
    exact r_i (dtk dt_X11_bent 10 (18, .ireturn, 1) rfl) rfl (by simp_all) rfl
  refine kc_X11_86 rfl (dtk dt_X11_bent 2 (2, .invokevirtual 86, 3) rfl) (c_X11_find_no (G := G)  hL.wf (by rw [hL.cnt]; exact hsp2_0)) rfl rfl (wk_0 hL.wf) (fitR (by decide) (by decide)) (Nat.le_of_ble_eq_true rfl) (pqK ?_)
  have hOn := isOr_n hsp2_0
  refine x_astore_n (dtk dt_X11_bent 3 (5, .astore_n 2, 1) rfl) (by decide) ?_
  refine x_aload_n (dtk dt_X11_bent 4 (6, .aload_n 2, 1) rfl) rfl ?_
  refine x_ifnonnull (tgt := 14) (dtk dt_X11_bent 5 (7, .ifnonnull 7, 3) rfl) (by decide) (fun c7 => ?_) (fun c7 => ?_)
  · exact absurd c7 (by decide)
  refine x_iconst (v := -1) ⟨by decide, by decide⟩ (dtk dt_X11_bent 6 (10, .iconst (-1), 1) rfl) ?_
  refine x_goto (tgt := 18) (dtk dt_X11_bent 7 (11, .goto 7, 3) rfl) (by decide) ?_
  exact r_i (dtk dt_X11_bent 10 (18, .ireturn, 1) rfl) rfl (by simp_all) rfl
set_option maxRecDepth 100000 in
set_option maxHeartbeats 4000000 in
theorem c_X11_bound {G : GG} {n : Nat} {K : KK} {M : MM} {o a b w : Int} (hL : LK K M) : MC G mi_X11_bound 3 0 0 [(1, 0), (0, o), (0, a), (0, b), (0, w)] n K M (PQ (some (0, if isTh M o a && isTh M o b && (decide (w = 0) || decide (w = 1)) then bnd (M 38 o) (dM M o) w a b else -2)) n K (M)) := by
  refine MC.intro (lc := [(0, (1, 0)), (1, (0, o)), (2, (0, a)), (3, (0, b)), (4, (0, w))]) (by decide) rfl (by simp [Nat.ble]) (Nat.le_of_ble_eq_true rfl) rfl (fun hMR => ?_)
  refine x_aload_n (dtk dt_X11_bound 0 (0, .aload_n 0, 1) rfl) rfl ?_
  refine x_iload_n (dtk dt_X11_bound 1 (1, .iload_n 1, 1) rfl) rfl ?_
  by_cases hsp2_0 : 0 ≤ o ∧ o < M 36 0
  · skip
    refine kc_X11_86 rfl (dtk dt_X11_bound 2 (2, .invokevirtual 86, 3) rfl) (c_X11_find (G := G)  hL.wf (by rw [hL.cnt]; exact hsp2_0) (by rw [hL.cnt]; exact hL.c8.2)) rfl rfl (wk_0 hL.wf) (fitR (by decide) (by decide)) (Nat.le_of_ble_eq_true rfl) (pqK ?_)
    have hO := hL.ob hsp2_0
    have hOg := hO.ge
    have hOs := hO.sz
    have hOP := hL.po hsp2_0
    have hOi := isOr_y hsp2_0
    refine x_astore (dtk dt_X11_bound 3 (5, .astore 5, 2) rfl) (by decide) ?_
    refine x_aload (dtk dt_X11_bound 4 (7, .aload 5, 2) rfl) rfl ?_
    refine x_ifnull (tgt := 22) (dtk dt_X11_bound 5 (9, .ifnull 13, 3) rfl) (by decide) (fun c9 => ?_) (fun c9 => ?_)
    · exact absurd c9 (by omega)
    refine x_aload (dtk dt_X11_bound 6 (12, .aload 5, 2) rfl) rfl ?_
    refine x_iload_n (dtk dt_X11_bound 7 (14, .iload_n 2, 1) rfl) rfl ?_
    refine x_iload_n (dtk dt_X11_bound 8 (15, .iload_n 3, 1) rfl) rfl ?_
    refine kc_X11_90 rfl (dtk dt_X11_bound 9 (16, .invokevirtual 90, 3) rfl) (c_X4_hasThings (G := G)  hO) rfl rfl hO.k hO.c (fitR (by decide) (by decide)) (Nat.le_of_ble_eq_true rfl) (pqK ?_)
    refine x_if_neB (tgt := 25) (dtk dt_X11_bound 10 (19, .ifCond .ne 6, 3) rfl) (by decide) (fun c19 => ?_) (fun c19 => ?_)
    · skip
      have hin : (0 ≤ a ∧ a < M 38 o) ∧ (0 ≤ b ∧ b < M 38 o) := by simpa [and_assoc] using c19
      refine x_iload (dtk dt_X11_bound 13 (25, .iload 4, 2) rfl) rfl ?_
      by_cases s27_0 : w = 0
      · skip
        refine x_ls (tgt := 52) (off := 25) (dtk dt_X11_bound 14 (27, .lookupswitch 41 #[(0, 25), (1, 33)], 25) rfl) (by decide) (by rw [s27_0]; rfl) (by decide) ?_
        refine x_aload (dtk dt_X11_bound 15 (52, .aload 5, 2) rfl) rfl ?_
        refine x_iload_n (dtk dt_X11_bound 16 (54, .iload_n 2, 1) rfl) rfl ?_
        refine x_iload_n (dtk dt_X11_bound 17 (55, .iload_n 3, 1) rfl) rfl ?_
        refine kc_X11_249 rfl (dtk dt_X11_bound 18 (56, .invokevirtual 249, 3) rfl) (c_X4_leastAbove (G := G)  hO (by omega) (by omega)) rfl rfl hO.k hO.c (fitR (by decide) (by decide)) (Nat.le_of_ble_eq_true rfl) (pqK ?_)
        exact r_i (dtk dt_X11_bound 19 (59, .ireturn, 1) rfl) rfl (by rw [if_pos (by rw [isTh_y hsp2_0, isTh_y hsp2_0, c19, s27_0]; rfl), s27_0]) rfl
      by_cases s27_1 : w = 1
      · skip
        refine x_ls (tgt := 60) (off := 33) (dtk dt_X11_bound 14 (27, .lookupswitch 41 #[(0, 25), (1, 33)], 25) rfl) (by decide) (by rw [s27_1]; rfl) (by decide) ?_
        refine x_aload (dtk dt_X11_bound 20 (60, .aload 5, 2) rfl) rfl ?_
        refine x_iload_n (dtk dt_X11_bound 21 (62, .iload_n 2, 1) rfl) rfl ?_
        refine x_iload_n (dtk dt_X11_bound 22 (63, .iload_n 3, 1) rfl) rfl ?_
        refine kc_X11_253 rfl (dtk dt_X11_bound 23 (64, .invokevirtual 253, 3) rfl) (c_X4_greatestUnder (G := G)  hO (by omega) (by omega)) rfl rfl hO.k hO.c (fitR (by decide) (by decide)) (Nat.le_of_ble_eq_true rfl) (pqK ?_)
        exact r_i (dtk dt_X11_bound 24 (67, .ireturn, 1) rfl) rfl (by rw [if_pos (by rw [isTh_y hsp2_0, isTh_y hsp2_0, c19, s27_1]; rfl), s27_1]) rfl
      have t27_0 : ¬ (0 : Int) = w := fun e => s27_0 e.symm
      have t27_1 : ¬ (1 : Int) = w := fun e => s27_1 e.symm
      refine x_ls (tgt := 68) (off := 41) (dtk dt_X11_bound 14 (27, .lookupswitch 41 #[(0, 25), (1, 33)], 25) rfl) (by decide) (by simp [Op.lookupswitch.offset, s27_0, t27_0, s27_1, t27_1]) (by decide) ?_
      refine x_bipush (v := -2) ⟨by decide, by decide⟩ (dtk dt_X11_bound 25 (68, .bipush (-2), 2) rfl) ?_
      exact r_i (dtk dt_X11_bound 26 (70, .ireturn, 1) rfl) rfl (by rw [if_neg (by simp [s27_0, s27_1])]) rfl
    · skip
      refine x_bipush (v := -2) ⟨by decide, by decide⟩ (dtk dt_X11_bound 11 (22, .bipush (-2), 2) rfl) ?_
      exact r_i (dtk dt_X11_bound 12 (24, .ireturn, 1) rfl) rfl (by first | (rw [isTh_n hsp2_0]; rfl) | (rw [isTh_y hsp2_0, isTh_y hsp2_0, c19]; rfl)) rfl
  refine kc_X11_86 rfl (dtk dt_X11_bound 2 (2, .invokevirtual 86, 3) rfl) (c_X11_find_no (G := G)  hL.wf (by rw [hL.cnt]; exact hsp2_0)) rfl rfl (wk_0 hL.wf) (fitR (by decide) (by decide)) (Nat.le_of_ble_eq_true rfl) (pqK ?_)
  have hOn := isOr_n hsp2_0
  refine x_astore (dtk dt_X11_bound 3 (5, .astore 5, 2) rfl) (by decide) ?_
  refine x_aload (dtk dt_X11_bound 4 (7, .aload 5, 2) rfl) rfl ?_
  refine x_ifnull (tgt := 22) (dtk dt_X11_bound 5 (9, .ifnull 13, 3) rfl) (by decide) (fun c9 => ?_) (fun c9 => ?_)
  rotate_left
  · exact absurd c9 (by decide)
  refine x_bipush (v := -2) ⟨by decide, by decide⟩ (dtk dt_X11_bound 11 (22, .bipush (-2), 2) rfl) ?_
  exact r_i (dtk dt_X11_bound 12 (24, .ireturn, 1) rfl) rfl (by first | (rw [isTh_n hsp2_0]; rfl) | (rw [isTh_y hsp2_0, isTh_y hsp2_0, c19]; rfl)) rfl
set_option maxRecDepth 100000 in
set_option maxHeartbeats 4000000 in
theorem c_X11_of {G : GG} {n : Nat} {K : KK} {M : MM} {o t w : Int} (hL : LK K M) : MC G mi_X11_of 18 0 0 [(1, 0), (0, o), (0, t), (0, w)] n K M (UQ sx (some (0, if isTh M o t && (decide (0 ≤ w) && decide (w ≤ 1)) then (if w = 1 then layC (M 38 o) (dM M o) t else oat (chR (M 38 o) (dM M o)) t) else -1)) n K M (fun M' => RC K M')) := by
  refine MC.intro (lc := [(0, (1, 0)), (1, (0, o)), (2, (0, t)), (3, (0, w))]) (by decide) rfl (by simp [Nat.ble]) (Nat.le_of_ble_eq_true rfl) rfl (fun hMR => ?_)
  refine x_aload_n (dtk dt_X11_of 0 (0, .aload_n 0, 1) rfl) rfl ?_
  refine x_iload_n (dtk dt_X11_of 1 (1, .iload_n 1, 1) rfl) rfl ?_
  by_cases hsp2_0 : 0 ≤ o ∧ o < M 36 0
  · skip
    refine kc_X11_86 rfl (dtk dt_X11_of 2 (2, .invokevirtual 86, 3) rfl) (c_X11_find (G := G)  hL.wf (by rw [hL.cnt]; exact hsp2_0) (by rw [hL.cnt]; exact hL.c8.2)) rfl rfl (wk_0 hL.wf) (fitR (by decide) (by decide)) (Nat.le_of_ble_eq_true rfl) (pqK ?_)
    have hO := hL.ob hsp2_0
    have hOg := hO.ge
    have hOs := hO.sz
    have hOP := hL.po hsp2_0
    have hOi := isOr_y hsp2_0
    refine x_astore (dtk dt_X11_of 3 (5, .astore 4, 2) rfl) (by decide) ?_
    refine x_aload (dtk dt_X11_of 4 (7, .aload 4, 2) rfl) rfl ?_
    refine x_ifnull (tgt := 21) (dtk dt_X11_of 5 (9, .ifnull 12, 3) rfl) (by decide) (fun c9 => ?_) (fun c9 => ?_)
    · exact absurd c9 (by omega)
    refine x_aload (dtk dt_X11_of 6 (12, .aload 4, 2) rfl) rfl ?_
    refine x_iload_n (dtk dt_X11_of 7 (14, .iload_n 2, 1) rfl) rfl ?_
    refine kc_X11_205 rfl (dtk dt_X11_of 8 (15, .invokevirtual 205, 3) rfl) (c_X4_hasThing (G := G)  hO) rfl rfl hO.k hO.c (fitR (by decide) (by decide)) (Nat.le_of_ble_eq_true rfl) (pqK ?_)
    refine x_if_neB (tgt := 23) (dtk dt_X11_of 9 (18, .ifCond .ne 5, 3) rfl) (by decide) (fun c18 => ?_) (fun c18 => ?_)
    · skip
      have hin : 0 ≤ t ∧ t < M 38 o := by simpa using c18
      refine x_iload_n (dtk dt_X11_of 12 (23, .iload_n 3, 1) rfl) rfl ?_
      by_cases s24_0 : w = 0
      · skip
        refine x_ls (tgt := 52) (off := 28) (dtk dt_X11_of 13 (24, .lookupswitch 46 #[(0, 28), (1, 39)], 28) rfl) (by decide) (by rw [s24_0]; rfl) (by decide) ?_
        refine x_aload_n (dtk dt_X11_of 14 (52, .aload_n 0, 1) rfl) rfl ?_
        refine fg_X11_60 rfl (dtk dt_X11_of 15 (53, .getfield 60, 3) rfl) (wk_0 hO.wf) (wm_0_9 hO.wf) ?_
        refine x_aload (dtk dt_X11_of 16 (56, .aload 4, 2) rfl) rfl ?_
        refine x_iload_n (dtk dt_X11_of 17 (58, .iload_n 2, 1) rfl) rfl ?_
        refine kc_X11_208 rfl (dtk dt_X11_of 18 (59, .invokevirtual 208, 3) rfl) (c_X7_chainOf (G := G)  hO (by omega)) rfl rfl (wk_18 hO.wf) (fitR (by decide) (by decide)) (Nat.le_of_ble_eq_true rfl) (uqK (fun M59_1 hs59_1 hE59_1 => ?_))
        have hE := hE59_1
        exact ru_i (dtk dt_X11_of 19 (62, .ireturn, 1) rfl) rfl (by rw [if_pos (by rw [isTh_y hsp2_0, c18, s24_0]; rfl), if_neg (by omega)]) hs59_1 (hL.rc.kp (hs59_1).hi hE)
      by_cases s24_1 : w = 1
      · skip
        refine x_ls (tgt := 63) (off := 39) (dtk dt_X11_of 13 (24, .lookupswitch 46 #[(0, 28), (1, 39)], 28) rfl) (by decide) (by rw [s24_1]; rfl) (by decide) ?_
        refine x_aload (dtk dt_X11_of 20 (63, .aload 4, 2) rfl) rfl ?_
        refine x_iload_n (dtk dt_X11_of 21 (65, .iload_n 2, 1) rfl) rfl ?_
        refine kc_X11_212 rfl (dtk dt_X11_of 22 (66, .invokevirtual 212, 3) rfl) (c_X4_layer (G := G)  hO (by omega)) rfl rfl hO.k hO.c (fitR (by decide) (by decide)) (Nat.le_of_ble_eq_true rfl) (pqK ?_)
        exact ru_i (dtk dt_X11_of 23 (69, .ireturn, 1) rfl) rfl (by rw [if_pos (by rw [isTh_y hsp2_0, c18, s24_1]; rfl), if_pos s24_1]) sx.rf hL.rc
      have t24_0 : ¬ (0 : Int) = w := fun e => s24_0 e.symm
      have t24_1 : ¬ (1 : Int) = w := fun e => s24_1 e.symm
      refine x_ls (tgt := 70) (off := 46) (dtk dt_X11_of 13 (24, .lookupswitch 46 #[(0, 28), (1, 39)], 28) rfl) (by decide) (by simp [Op.lookupswitch.offset, s24_0, t24_0, s24_1, t24_1]) (by decide) ?_
      refine x_iconst (v := -1) ⟨by decide, by decide⟩ (dtk dt_X11_of 24 (70, .iconst (-1), 1) rfl) ?_
      exact ru_i (dtk dt_X11_of 25 (71, .ireturn, 1) rfl) rfl (by rw [if_neg (by simp; intro _ z1; omega)]) sx.rf hL.rc
    · skip
      refine x_iconst (v := -1) ⟨by decide, by decide⟩ (dtk dt_X11_of 10 (21, .iconst (-1), 1) rfl) ?_
      exact ru_i (dtk dt_X11_of 11 (22, .ireturn, 1) rfl) rfl (by first | (rw [isTh_n hsp2_0]; rfl) | (rw [isTh_y hsp2_0, c18]; rfl)) sx.rf hL.rc
  refine kc_X11_86 rfl (dtk dt_X11_of 2 (2, .invokevirtual 86, 3) rfl) (c_X11_find_no (G := G)  hL.wf (by rw [hL.cnt]; exact hsp2_0)) rfl rfl (wk_0 hL.wf) (fitR (by decide) (by decide)) (Nat.le_of_ble_eq_true rfl) (pqK ?_)
  have hOn := isOr_n hsp2_0
  refine x_astore (dtk dt_X11_of 3 (5, .astore 4, 2) rfl) (by decide) ?_
  refine x_aload (dtk dt_X11_of 4 (7, .aload 4, 2) rfl) rfl ?_
  refine x_ifnull (tgt := 21) (dtk dt_X11_of 5 (9, .ifnull 12, 3) rfl) (by decide) (fun c9 => ?_) (fun c9 => ?_)
  rotate_left
  · exact absurd c9 (by decide)
  refine x_iconst (v := -1) ⟨by decide, by decide⟩ (dtk dt_X11_of 10 (21, .iconst (-1), 1) rfl) ?_
  exact ru_i (dtk dt_X11_of 11 (22, .ireturn, 1) rfl) rfl (by first | (rw [isTh_n hsp2_0]; rfl) | (rw [isTh_y hsp2_0, c18]; rfl)) sx.rf hL.rc
set_option maxRecDepth 100000 in
set_option maxHeartbeats 4000000 in
theorem c_X11_low {G : GG} {n : Nat} {K : KK} {M : MM} {o i : Int} (hL : LK K M) : MC G mi_X11_low 5 0 0 [(1, 0), (0, o), (0, i)] n K M (UQ sx (some (0, if isOr M o then nth (p2 (M 38 o)) (wyP (M 38 o) (dM M o)) 0 i else -1)) n K M (fun M' => RC K M')) := by
  refine MC.intro (lc := [(0, (1, 0)), (1, (0, o)), (2, (0, i))]) (by decide) rfl (by simp [Nat.ble]) (Nat.le_of_ble_eq_true rfl) rfl (fun hMR => ?_)
  refine x_aload_n (dtk dt_X11_low 0 (0, .aload_n 0, 1) rfl) rfl ?_
  refine x_iload_n (dtk dt_X11_low 1 (1, .iload_n 1, 1) rfl) rfl ?_
  by_cases hsp2_0 : 0 ≤ o ∧ o < M 36 0
  · skip
    refine kc_X11_86 rfl (dtk dt_X11_low 2 (2, .invokevirtual 86, 3) rfl) (c_X11_find (G := G)  hL.wf (by rw [hL.cnt]; exact hsp2_0) (by rw [hL.cnt]; exact hL.c8.2)) rfl rfl (wk_0 hL.wf) (fitR (by decide) (by decide)) (Nat.le_of_ble_eq_true rfl) (pqK ?_)
    have hO := hL.ob hsp2_0
    have hOg := hO.ge
    have hOs := hO.sz
    have hOP := hL.po hsp2_0
    have hOi := isOr_y hsp2_0
    refine x_astore_n (dtk dt_X11_low 3 (5, .astore_n 3, 1) rfl) (by decide) ?_
    refine x_aload_n (dtk dt_X11_low 4 (6, .aload_n 3, 1) rfl) rfl ?_
    refine x_ifnonnull (tgt := 14) (dtk dt_X11_low 5 (7, .ifnonnull 7, 3) rfl) (by decide) (fun c7 => ?_) (fun c7 => ?_)
    rotate_left
    · exact absurd c7 (by omega)
    refine x_aload_n (dtk dt_X11_low 8 (14, .aload_n 0, 1) rfl) rfl ?_
    refine fg_X11_46 rfl (dtk dt_X11_low 9 (15, .getfield 46, 3) rfl) (wk_0 hO.wf) (wm_0_7 hO.wf) ?_
    refine x_aload_n (dtk dt_X11_low 10 (18, .aload_n 3, 1) rfl) rfl ?_
    refine x_iload_n (dtk dt_X11_low 11 (19, .iload_n 2, 1) rfl) rfl ?_
    refine kc_X11_215 rfl (dtk dt_X11_low 12 (20, .invokevirtual 215, 3) rfl) (c_X6_lowSet (G := G)  hO hL.rc) rfl rfl (wk_9 hO.wf) (fitR (by decide) (by decide)) (Nat.le_of_ble_eq_true rfl) (uqK (fun M20_1 hs20_1 hE20_1 => ?_))
    have hE := hE20_1
    exact ru_i (dtk dt_X11_low 13 (23, .ireturn, 1) rfl) rfl (by simp_all) hs20_1 (by first | exact hE | exact hL.rc)
  refine kc_X11_86 rfl (dtk dt_X11_low 2 (2, .invokevirtual 86, 3) rfl) (c_X11_find_no (G := G)  hL.wf (by rw [hL.cnt]; exact hsp2_0)) rfl rfl (wk_0 hL.wf) (fitR (by decide) (by decide)) (Nat.le_of_ble_eq_true rfl) (pqK ?_)
  have hOn := isOr_n hsp2_0
  refine x_astore_n (dtk dt_X11_low 3 (5, .astore_n 3, 1) rfl) (by decide) ?_
  refine x_aload_n (dtk dt_X11_low 4 (6, .aload_n 3, 1) rfl) rfl ?_
  refine x_ifnonnull (tgt := 14) (dtk dt_X11_low 5 (7, .ifnonnull 7, 3) rfl) (by decide) (fun c7 => ?_) (fun c7 => ?_)
  · exact absurd c7 (by decide)
  refine x_iconst (v := -1) ⟨by decide, by decide⟩ (dtk dt_X11_low 6 (10, .iconst (-1), 1) rfl) ?_
  refine x_goto (tgt := 23) (dtk dt_X11_low 7 (11, .goto 12, 3) rfl) (by decide) ?_
  exact ru_i (dtk dt_X11_low 13 (23, .ireturn, 1) rfl) rfl (by simp_all) sx.rf (by first | exact hE | exact hL.rc)
set_option maxRecDepth 100000 in
set_option maxHeartbeats 4000000 in
theorem c_X11_rowOut {G : GG} {n : Nat} {K : KK} {M : MM} {o rk i : Int} (hL : LK K M) : MC G mi_X11_rowOut 6 0 0 [(1, 0), (0, o), (0, rk), (0, i)] n K M (UQ sx (some (0, if isOr M o && (decide (0 ≤ rk) && decide (rk < tl (M 38 o) (dM M o) 0)) && (decide (0 ≤ i) && decide (i < M 38 o)) then fdO (M 38 o) (dM M o) rk i else -1)) n K M (fun M' => RC K M')) := by
  refine MC.intro (lc := [(0, (1, 0)), (1, (0, o)), (2, (0, rk)), (3, (0, i))]) (by decide) rfl (by simp [Nat.ble]) (Nat.le_of_ble_eq_true rfl) rfl (fun hMR => ?_)
  refine x_aload_n (dtk dt_X11_rowOut 0 (0, .aload_n 0, 1) rfl) rfl ?_
  refine x_iload_n (dtk dt_X11_rowOut 1 (1, .iload_n 1, 1) rfl) rfl ?_
  by_cases hsp2_0 : 0 ≤ o ∧ o < M 36 0
  · skip
    refine kc_X11_86 rfl (dtk dt_X11_rowOut 2 (2, .invokevirtual 86, 3) rfl) (c_X11_find (G := G)  hL.wf (by rw [hL.cnt]; exact hsp2_0) (by rw [hL.cnt]; exact hL.c8.2)) rfl rfl (wk_0 hL.wf) (fitR (by decide) (by decide)) (Nat.le_of_ble_eq_true rfl) (pqK ?_)
    have hO := hL.ob hsp2_0
    have hOg := hO.ge
    have hOs := hO.sz
    have hOP := hL.po hsp2_0
    have hOi := isOr_y hsp2_0
    refine x_astore (dtk dt_X11_rowOut 3 (5, .astore 4, 2) rfl) (by decide) ?_
    refine x_aload (dtk dt_X11_rowOut 4 (7, .aload 4, 2) rfl) rfl ?_
    refine x_ifnull (tgt := 25) (dtk dt_X11_rowOut 5 (9, .ifnull 16, 3) rfl) (by decide) (fun c9 => ?_) (fun c9 => ?_)
    · exact absurd c9 (by omega)
    refine x_aload_n (dtk dt_X11_rowOut 6 (12, .aload_n 0, 1) rfl) rfl ?_
    refine fg_X11_46 rfl (dtk dt_X11_rowOut 7 (13, .getfield 46, 3) rfl) (wk_0 hO.wf) (wm_0_7 hO.wf) ?_
    refine x_aload (dtk dt_X11_rowOut 8 (16, .aload 4, 2) rfl) rfl ?_
    refine x_iload_n (dtk dt_X11_rowOut 9 (18, .iload_n 2, 1) rfl) rfl ?_
    refine kc_X11_218 rfl (dtk dt_X11_rowOut 10 (19, .invokevirtual 218, 3) rfl) (c_X6_hasRank (G := G)  hO hL.rc) rfl rfl (wk_9 hO.wf) (fitR (by decide) (by decide)) (Nat.le_of_ble_eq_true rfl) (uqK (fun M19_1 hs19_1 hE19_1 => ?_))
    have hE := hE19_1
    refine x_if_neB (tgt := 27) (dtk dt_X11_rowOut 11 (22, .ifCond .ne 5, 3) rfl) (by decide) (fun c22 => ?_) (fun c22 => ?_)
    · skip
      have hrk : 0 ≤ rk ∧ rk < tl (M 38 o) (dM M o) 0 := by simpa using c22
      refine x_aload_n (dtk dt_X11_rowOut 14 (27, .aload_n 0, 1) rfl) rfl ?_
      refine fg_X11_46 rfl (dtk dt_X11_rowOut 15 (28, .getfield 46, 3) rfl) (wk_0 hO.wf) (wm_0_7 (hO.off_sx hs19_1).wf) ?_
      refine x_aload (dtk dt_X11_rowOut 16 (31, .aload 4, 2) rfl) rfl ?_
      refine x_iload_n (dtk dt_X11_rowOut 17 (33, .iload_n 2, 1) rfl) rfl ?_
      refine x_aload_n (dtk dt_X11_rowOut 18 (34, .aload_n 0, 1) rfl) rfl ?_
      refine fg_X11_64 rfl (dtk dt_X11_rowOut 19 (35, .getfield 64, 3) rfl) (wk_0 hO.wf) (wm_0_10 (hO.off_sx hs19_1).wf) ?_
      refine kc_X11_222 rfl (dtk dt_X11_rowOut 20 (38, .invokevirtual 222, 3) rfl) (c_X6_tellRow (G := G)  (hO.off_sx hs19_1) hE hrk) rfl rfl (wk_9 hO.wf) (fitR (by decide) (by decide)) (Nat.le_of_ble_eq_true rfl) (uqK (fun M38_2 hs38_2 hE38_2 => ?_))
      have hE2 := hE38_2
      refine x_aload_n (dtk dt_X11_rowOut 21 (41, .aload_n 0, 1) rfl) rfl ?_
      refine fg_X11_64 rfl (dtk dt_X11_rowOut 22 (42, .getfield 64, 3) rfl) (wk_0 hO.wf) (wm_0_10 (hO.off_sx (hs19_1.tr hs38_2)).wf) ?_
      refine x_iload_n (dtk dt_X11_rowOut 23 (45, .iload_n 3, 1) rfl) rfl ?_
      refine kc_X11_114 rfl (dtk dt_X11_rowOut 24 (46, .invokevirtual 114, 3) rfl) (c_X3_at (G := G)  (ln_26 (hO.off_sx (hs19_1.tr hs38_2)).wf (by omega))) rfl rfl (wk_26 hO.wf) (fitR (by decide) (by decide)) (Nat.le_of_ble_eq_true rfl) (pqK ?_)
      change MW G _ _ _ _ _ _ ((0, if 0 ≤ i ∧ i < M38_2 26 1 then M38_2 27 i else -1) :: _) _ _ _
      exact ru_i (dtk dt_X11_rowOut 25 (49, .ireturn, 1) rfl) rfl (by rw [hE2.2.1, hOi, c22]; by_cases hq : 0 ≤ i ∧ i < M 38 o; (rw [if_pos hq, if_pos (by simp; exact hq)]; exact hE2.2.2 i hq.1 hq.2); (rw [if_neg hq, if_neg (by simp; omega)])) (hs19_1.tr hs38_2) hE2.1
    · skip
      refine x_iconst (v := -1) ⟨by decide, by decide⟩ (dtk dt_X11_rowOut 12 (25, .iconst (-1), 1) rfl) ?_
      exact ru_i (dtk dt_X11_rowOut 13 (26, .ireturn, 1) rfl) rfl (by first | (rw [hOn]; rfl) | (rw [hOi, c22]; rfl)) hs19_1 (by first | exact hE | exact hL.rc)
  refine kc_X11_86 rfl (dtk dt_X11_rowOut 2 (2, .invokevirtual 86, 3) rfl) (c_X11_find_no (G := G)  hL.wf (by rw [hL.cnt]; exact hsp2_0)) rfl rfl (wk_0 hL.wf) (fitR (by decide) (by decide)) (Nat.le_of_ble_eq_true rfl) (pqK ?_)
  have hOn := isOr_n hsp2_0
  refine x_astore (dtk dt_X11_rowOut 3 (5, .astore 4, 2) rfl) (by decide) ?_
  refine x_aload (dtk dt_X11_rowOut 4 (7, .aload 4, 2) rfl) rfl ?_
  refine x_ifnull (tgt := 25) (dtk dt_X11_rowOut 5 (9, .ifnull 16, 3) rfl) (by decide) (fun c9 => ?_) (fun c9 => ?_)
  rotate_left
  · exact absurd c9 (by decide)
  refine x_iconst (v := -1) ⟨by decide, by decide⟩ (dtk dt_X11_rowOut 12 (25, .iconst (-1), 1) rfl) ?_
  exact ru_i (dtk dt_X11_rowOut 13 (26, .ireturn, 1) rfl) rfl (by first | (rw [hOn]; rfl) | (rw [hOi, c22]; rfl)) sx.rf (by first | exact hE | exact hL.rc)
set_option maxRecDepth 100000 in
set_option maxHeartbeats 4000000 in
theorem c_X11_before {G : GG} {n : Nat} {K : KK} {M : MM} {o a b : Int} (hL : LK K M) : MC G mi_X11_before 5 0 0 [(1, 0), (0, o), (0, a), (0, b)] n K M (UQ sx (some (0, if isTh M o a && isTh M o b && decide (a ≠ b) then ahC (M 38 o) (dM M o) a b else -1)) n K M (fun M' => RC K M')) := by
  refine MC.intro (lc := [(0, (1, 0)), (1, (0, o)), (2, (0, a)), (3, (0, b))]) (by decide) rfl (by simp [Nat.ble]) (Nat.le_of_ble_eq_true rfl) rfl (fun hMR => ?_)
  refine x_aload_n (dtk dt_X11_before 0 (0, .aload_n 0, 1) rfl) rfl ?_
  refine x_iload_n (dtk dt_X11_before 1 (1, .iload_n 1, 1) rfl) rfl ?_
  by_cases hsp2_0 : 0 ≤ o ∧ o < M 36 0
  · skip
    refine kc_X11_86 rfl (dtk dt_X11_before 2 (2, .invokevirtual 86, 3) rfl) (c_X11_find (G := G)  hL.wf (by rw [hL.cnt]; exact hsp2_0) (by rw [hL.cnt]; exact hL.c8.2)) rfl rfl (wk_0 hL.wf) (fitR (by decide) (by decide)) (Nat.le_of_ble_eq_true rfl) (pqK ?_)
    have hO := hL.ob hsp2_0
    have hOg := hO.ge
    have hOs := hO.sz
    have hOP := hL.po hsp2_0
    have hOi := isOr_y hsp2_0
    refine x_astore (dtk dt_X11_before 3 (5, .astore 4, 2) rfl) (by decide) ?_
    refine x_aload (dtk dt_X11_before 4 (7, .aload 4, 2) rfl) rfl ?_
    refine x_ifnull (tgt := 27) (dtk dt_X11_before 5 (9, .ifnull 18, 3) rfl) (by decide) (fun c9 => ?_) (fun c9 => ?_)
    · exact absurd c9 (by omega)
    refine x_aload (dtk dt_X11_before 6 (12, .aload 4, 2) rfl) rfl ?_
    refine x_iload_n (dtk dt_X11_before 7 (14, .iload_n 2, 1) rfl) rfl ?_
    refine x_iload_n (dtk dt_X11_before 8 (15, .iload_n 3, 1) rfl) rfl ?_
    refine kc_X11_90 rfl (dtk dt_X11_before 9 (16, .invokevirtual 90, 3) rfl) (c_X4_hasThings (G := G)  hO) rfl rfl hO.k hO.c (fitR (by decide) (by decide)) (Nat.le_of_ble_eq_true rfl) (pqK ?_)
    refine x_if_eqB (tgt := 27) (dtk dt_X11_before 10 (19, .ifCond .eq 8, 3) rfl) (by decide) (fun c19 => ?_) (fun c19 => ?_)
    · skip
      refine x_iconst (v := -1) ⟨by decide, by decide⟩ (dtk dt_X11_before 14 (27, .iconst (-1), 1) rfl) ?_
      exact ru_i (dtk dt_X11_before 15 (28, .ireturn, 1) rfl) rfl (by first | (rw [isTh_n hsp2_0]; rfl) | (rw [isTh_y hsp2_0, isTh_y hsp2_0, c19]; rfl) | (rw [decide_eq_false (by omega), Bool.and_false]; rfl)) sx.rf hL.rc
    · skip
      have hin : (0 ≤ a ∧ a < M 38 o) ∧ (0 ≤ b ∧ b < M 38 o) := by simpa [and_assoc] using c19
      refine x_iload_n (dtk dt_X11_before 11 (22, .iload_n 2, 1) rfl) rfl ?_
      refine x_iload_n (dtk dt_X11_before 12 (23, .iload_n 3, 1) rfl) rfl ?_
      refine x_icmp_ne (tgt := 29) (dtk dt_X11_before 13 (24, .if_icmp .ne 5, 3) rfl) (by decide) (fun c24 => ?_) (fun c24 => ?_)
      · skip
        refine x_aload_n (dtk dt_X11_before 16 (29, .aload_n 0, 1) rfl) rfl ?_
        refine fg_X11_46 rfl (dtk dt_X11_before 17 (30, .getfield 46, 3) rfl) (wk_0 hO.wf) (wm_0_7 hO.wf) ?_
        refine x_aload (dtk dt_X11_before 18 (33, .aload 4, 2) rfl) rfl ?_
        refine x_iload_n (dtk dt_X11_before 19 (35, .iload_n 2, 1) rfl) rfl ?_
        refine x_iload_n (dtk dt_X11_before 20 (36, .iload_n 3, 1) rfl) rfl ?_
        refine kc_X11_226 rfl (dtk dt_X11_before 21 (37, .invokevirtual 226, 3) rfl) (c_X6_aheadCount (G := G)  hO hL.rc (by omega) (by omega)) rfl rfl (wk_9 hO.wf) (fitR (by decide) (by decide)) (Nat.le_of_ble_eq_true rfl) (uqK (fun M37_1 hs37_1 hE37_1 => ?_))
        have hE := hE37_1
        exact ru_i (dtk dt_X11_before 22 (40, .ireturn, 1) rfl) rfl (by rw [if_pos (by rw [isTh_y hsp2_0, isTh_y hsp2_0, c19, decide_eq_true c24]; rfl)]) hs37_1 hE
      · skip
        refine x_iconst (v := -1) ⟨by decide, by decide⟩ (dtk dt_X11_before 14 (27, .iconst (-1), 1) rfl) ?_
        exact ru_i (dtk dt_X11_before 15 (28, .ireturn, 1) rfl) rfl (by first | (rw [isTh_n hsp2_0]; rfl) | (rw [isTh_y hsp2_0, isTh_y hsp2_0, c19]; rfl) | (rw [decide_eq_false (by omega), Bool.and_false]; rfl)) sx.rf hL.rc
  refine kc_X11_86 rfl (dtk dt_X11_before 2 (2, .invokevirtual 86, 3) rfl) (c_X11_find_no (G := G)  hL.wf (by rw [hL.cnt]; exact hsp2_0)) rfl rfl (wk_0 hL.wf) (fitR (by decide) (by decide)) (Nat.le_of_ble_eq_true rfl) (pqK ?_)
  have hOn := isOr_n hsp2_0
  refine x_astore (dtk dt_X11_before 3 (5, .astore 4, 2) rfl) (by decide) ?_
  refine x_aload (dtk dt_X11_before 4 (7, .aload 4, 2) rfl) rfl ?_
  refine x_ifnull (tgt := 27) (dtk dt_X11_before 5 (9, .ifnull 18, 3) rfl) (by decide) (fun c9 => ?_) (fun c9 => ?_)
  rotate_left
  · exact absurd c9 (by decide)
  refine x_iconst (v := -1) ⟨by decide, by decide⟩ (dtk dt_X11_before 14 (27, .iconst (-1), 1) rfl) ?_
  exact ru_i (dtk dt_X11_before 15 (28, .ireturn, 1) rfl) rfl (by first | (rw [isTh_n hsp2_0]; rfl) | (rw [isTh_y hsp2_0, isTh_y hsp2_0, c19]; rfl) | (rw [decide_eq_false (by omega), Bool.and_false]; rfl)) sx.rf hL.rc
set_option maxRecDepth 100000 in
set_option maxHeartbeats 4000000 in
theorem c_X11_places {G : GG} {n : Nat} {K : KK} {M : MM} {o t : Int} (hL : LK K M) : MC G mi_X11_places 5 0 0 [(1, 0), (0, o), (0, t)] n K M (UQ sx (some (2, if isTh M o t then plC (M 38 o) (dM M o) t else -1)) n K M (fun M' => RC K M')) := by
  refine MC.intro (lc := [(0, (1, 0)), (1, (0, o)), (2, (0, t))]) (by decide) rfl (by simp [Nat.ble]) (Nat.le_of_ble_eq_true rfl) rfl (fun hMR => ?_)
  refine x_aload_n (dtk dt_X11_places 0 (0, .aload_n 0, 1) rfl) rfl ?_
  refine x_iload_n (dtk dt_X11_places 1 (1, .iload_n 1, 1) rfl) rfl ?_
  by_cases hsp2_0 : 0 ≤ o ∧ o < M 36 0
  · skip
    refine kc_X11_86 rfl (dtk dt_X11_places 2 (2, .invokevirtual 86, 3) rfl) (c_X11_find (G := G)  hL.wf (by rw [hL.cnt]; exact hsp2_0) (by rw [hL.cnt]; exact hL.c8.2)) rfl rfl (wk_0 hL.wf) (fitR (by decide) (by decide)) (Nat.le_of_ble_eq_true rfl) (pqK ?_)
    have hO := hL.ob hsp2_0
    have hOg := hO.ge
    have hOs := hO.sz
    have hOP := hL.po hsp2_0
    have hOi := isOr_y hsp2_0
    refine x_astore_n (dtk dt_X11_places 3 (5, .astore_n 3, 1) rfl) (by decide) ?_
    refine x_aload_n (dtk dt_X11_places 4 (6, .aload_n 3, 1) rfl) rfl ?_
    refine x_ifnull (tgt := 18) (dtk dt_X11_places 5 (7, .ifnull 11, 3) rfl) (by decide) (fun c7 => ?_) (fun c7 => ?_)
    · exact absurd c7 (by omega)
    refine x_aload_n (dtk dt_X11_places 6 (10, .aload_n 3, 1) rfl) rfl ?_
    refine x_iload_n (dtk dt_X11_places 7 (11, .iload_n 2, 1) rfl) rfl ?_
    refine kc_X11_205 rfl (dtk dt_X11_places 8 (12, .invokevirtual 205, 3) rfl) (c_X4_hasThing (G := G)  hO) rfl rfl hO.k hO.c (fitR (by decide) (by decide)) (Nat.le_of_ble_eq_true rfl) (pqK ?_)
    refine x_if_neB (tgt := 22) (dtk dt_X11_places 9 (15, .ifCond .ne 7, 3) rfl) (by decide) (fun c15 => ?_) (fun c15 => ?_)
    · skip
      have hin : 0 ≤ t ∧ t < M 38 o := by simpa using c15
      refine x_aload_n (dtk dt_X11_places 12 (22, .aload_n 0, 1) rfl) rfl ?_
      refine fg_X11_46 rfl (dtk dt_X11_places 13 (23, .getfield 46, 3) rfl) (wk_0 hO.wf) (wm_0_7 hO.wf) ?_
      refine x_aload_n (dtk dt_X11_places 14 (26, .aload_n 3, 1) rfl) rfl ?_
      refine x_iload_n (dtk dt_X11_places 15 (27, .iload_n 2, 1) rfl) rfl ?_
      refine kc_X11_232 rfl (dtk dt_X11_places 16 (28, .invokevirtual 232, 3) rfl) (c_X6_placeSum (G := G)  hO hL.rc (by omega)) rfl rfl (wk_9 hO.wf) (fitR (by decide) (by decide)) (Nat.le_of_ble_eq_true rfl) (uqK (fun M28_1 hs28_1 hE28_1 => ?_))
      have hE := hE28_1
      exact ru_l (dtk dt_X11_places 17 (31, .lreturn, 1) rfl) rfl (by rw [if_pos (by rw [isTh_y hsp2_0]; exact c15)]) hs28_1 hE
    · skip
      refine x_ldc2 (v := -1) (dtk dt_X11_places 10 (18, .ldc2_w 230, 3) rfl) ⟨by decide, by decide⟩ (show Jvm.Cond.constantLong "HalfOrders" 230 (Int64.ofInt (-1)) ∈ mw_tbl from by rw [show Int64.ofInt (-1) = (-1 : Int64) from by decide]; exact w813) ?_
      exact ru_l (dtk dt_X11_places 11 (21, .lreturn, 1) rfl) rfl (by first | (rw [isTh_n hsp2_0]; rfl) | (rw [isTh_y hsp2_0, c15]; rfl)) sx.rf hL.rc
  refine kc_X11_86 rfl (dtk dt_X11_places 2 (2, .invokevirtual 86, 3) rfl) (c_X11_find_no (G := G)  hL.wf (by rw [hL.cnt]; exact hsp2_0)) rfl rfl (wk_0 hL.wf) (fitR (by decide) (by decide)) (Nat.le_of_ble_eq_true rfl) (pqK ?_)
  have hOn := isOr_n hsp2_0
  refine x_astore_n (dtk dt_X11_places 3 (5, .astore_n 3, 1) rfl) (by decide) ?_
  refine x_aload_n (dtk dt_X11_places 4 (6, .aload_n 3, 1) rfl) rfl ?_
  refine x_ifnull (tgt := 18) (dtk dt_X11_places 5 (7, .ifnull 11, 3) rfl) (by decide) (fun c7 => ?_) (fun c7 => ?_)
  rotate_left
  · exact absurd c7 (by decide)
  refine x_ldc2 (v := -1) (dtk dt_X11_places 10 (18, .ldc2_w 230, 3) rfl) ⟨by decide, by decide⟩ (show Jvm.Cond.constantLong "HalfOrders" 230 (Int64.ofInt (-1)) ∈ mw_tbl from by rw [show Int64.ofInt (-1) = (-1 : Int64) from by decide]; exact w813) ?_
  exact ru_l (dtk dt_X11_places 11 (21, .lreturn, 1) rfl) rfl (by first | (rw [isTh_n hsp2_0]; rfl) | (rw [isTh_y hsp2_0, c15]; rfl)) sx.rf hL.rc
set_option maxRecDepth 100000 in
set_option maxHeartbeats 4000000 in
theorem c_X11_fair {G : GG} {n : Nat} {K : KK} {M : MM} {o : Int} (hL : LK K M) : MC G mi_X11_fair 6 0 0 [(1, 0), (0, o)] n K M (UQ sx (some (0, if isOr M o then fairC (M 38 o) (dM M o) else -1)) n K M (fun M' => RC K M')) := by
  refine MC.intro (lc := [(0, (1, 0)), (1, (0, o))]) (by decide) rfl (by simp [Nat.ble]) (Nat.le_of_ble_eq_true rfl) rfl (fun hMR => ?_)
  refine x_aload_n (dtk dt_X11_fair 0 (0, .aload_n 0, 1) rfl) rfl ?_
  refine x_iload_n (dtk dt_X11_fair 1 (1, .iload_n 1, 1) rfl) rfl ?_
  by_cases hsp2_0 : 0 ≤ o ∧ o < M 36 0
  · skip
    refine kc_X11_86 rfl (dtk dt_X11_fair 2 (2, .invokevirtual 86, 3) rfl) (c_X11_find (G := G)  hL.wf (by rw [hL.cnt]; exact hsp2_0) (by rw [hL.cnt]; exact hL.c8.2)) rfl rfl (wk_0 hL.wf) (fitR (by decide) (by decide)) (Nat.le_of_ble_eq_true rfl) (pqK ?_)
    have hO := hL.ob hsp2_0
    have hOg := hO.ge
    have hOs := hO.sz
    have hOP := hL.po hsp2_0
    have hOi := isOr_y hsp2_0
    refine x_astore_n (dtk dt_X11_fair 3 (5, .astore_n 2, 1) rfl) (by decide) ?_
    refine x_aload_n (dtk dt_X11_fair 4 (6, .aload_n 2, 1) rfl) rfl ?_
    refine x_ifnonnull (tgt := 14) (dtk dt_X11_fair 5 (7, .ifnonnull 7, 3) rfl) (by decide) (fun c7 => ?_) (fun c7 => ?_)
    rotate_left
    · exact absurd c7 (by omega)
    refine x_aload_n (dtk dt_X11_fair 8 (14, .aload_n 0, 1) rfl) rfl ?_
    refine fg_X11_46 rfl (dtk dt_X11_fair 9 (15, .getfield 46, 3) rfl) (wk_0 hO.wf) (wm_0_7 hO.wf) ?_
    refine x_aload_n (dtk dt_X11_fair 10 (18, .aload_n 2, 1) rfl) rfl ?_
    refine kc_X11_236 rfl (dtk dt_X11_fair 11 (19, .invokevirtual 236, 3) rfl) (c_X6_firstFair (G := G)  hO hL.rc) rfl rfl (wk_9 hO.wf) (fitR (by decide) (by decide)) (Nat.le_of_ble_eq_true rfl) (uqK (fun M19_1 hs19_1 hE19_1 => ?_))
    have hE := hE19_1
    exact ru_i (dtk dt_X11_fair 12 (22, .ireturn, 1) rfl) rfl (by simp_all) hs19_1 (by first | exact hE | exact hL.rc)
  refine kc_X11_86 rfl (dtk dt_X11_fair 2 (2, .invokevirtual 86, 3) rfl) (c_X11_find_no (G := G)  hL.wf (by rw [hL.cnt]; exact hsp2_0)) rfl rfl (wk_0 hL.wf) (fitR (by decide) (by decide)) (Nat.le_of_ble_eq_true rfl) (pqK ?_)
  have hOn := isOr_n hsp2_0
  refine x_astore_n (dtk dt_X11_fair 3 (5, .astore_n 2, 1) rfl) (by decide) ?_
  refine x_aload_n (dtk dt_X11_fair 4 (6, .aload_n 2, 1) rfl) rfl ?_
  refine x_ifnonnull (tgt := 14) (dtk dt_X11_fair 5 (7, .ifnonnull 7, 3) rfl) (by decide) (fun c7 => ?_) (fun c7 => ?_)
  · exact absurd c7 (by decide)
  refine x_iconst (v := -1) ⟨by decide, by decide⟩ (dtk dt_X11_fair 6 (10, .iconst (-1), 1) rfl) ?_
  refine x_goto (tgt := 22) (dtk dt_X11_fair 7 (11, .goto 11, 3) rfl) (by decide) ?_
  exact ru_i (dtk dt_X11_fair 12 (22, .ireturn, 1) rfl) rfl (by simp_all) sx.rf (by first | exact hE | exact hL.rc)
set_option maxRecDepth 100000 in
set_option maxHeartbeats 4000000 in
theorem c_X11_invert {G : GG} {n : Nat} {K : KK} {M : MM} {o a b : Int} (hL : LK K M) : MC G mi_X11_invert 6 0 0 [(1, 0), (0, o), (0, a), (0, b)] n K M (UQ sx (some (0, if isTh M o a && isTh M o b then ivS (M 38 o) (dM M o) a (M 17) (M 38 o) b else -1000000)) n K M (fun M' => RC K M')) := by
  refine MC.intro (lc := [(0, (1, 0)), (1, (0, o)), (2, (0, a)), (3, (0, b))]) (by decide) rfl (by simp [Nat.ble]) (Nat.le_of_ble_eq_true rfl) rfl (fun hMR => ?_)
  refine x_aload_n (dtk dt_X11_invert 0 (0, .aload_n 0, 1) rfl) rfl ?_
  refine x_iload_n (dtk dt_X11_invert 1 (1, .iload_n 1, 1) rfl) rfl ?_
  by_cases hsp2_0 : 0 ≤ o ∧ o < M 36 0
  · skip
    refine kc_X11_86 rfl (dtk dt_X11_invert 2 (2, .invokevirtual 86, 3) rfl) (c_X11_find (G := G)  hL.wf (by rw [hL.cnt]; exact hsp2_0) (by rw [hL.cnt]; exact hL.c8.2)) rfl rfl (wk_0 hL.wf) (fitR (by decide) (by decide)) (Nat.le_of_ble_eq_true rfl) (pqK ?_)
    have hO := hL.ob hsp2_0
    have hOg := hO.ge
    have hOs := hO.sz
    have hOP := hL.po hsp2_0
    have hOi := isOr_y hsp2_0
    refine x_astore (dtk dt_X11_invert 3 (5, .astore 4, 2) rfl) (by decide) ?_
    refine x_aload (dtk dt_X11_invert 4 (7, .aload 4, 2) rfl) rfl ?_
    refine x_ifnull (tgt := 22) (dtk dt_X11_invert 5 (9, .ifnull 13, 3) rfl) (by decide) (fun c9 => ?_) (fun c9 => ?_)
    · exact absurd c9 (by omega)
    refine x_aload (dtk dt_X11_invert 6 (12, .aload 4, 2) rfl) rfl ?_
    refine x_iload_n (dtk dt_X11_invert 7 (14, .iload_n 2, 1) rfl) rfl ?_
    refine x_iload_n (dtk dt_X11_invert 8 (15, .iload_n 3, 1) rfl) rfl ?_
    refine kc_X11_90 rfl (dtk dt_X11_invert 9 (16, .invokevirtual 90, 3) rfl) (c_X4_hasThings (G := G)  hO) rfl rfl hO.k hO.c (fitR (by decide) (by decide)) (Nat.le_of_ble_eq_true rfl) (pqK ?_)
    refine x_if_neB (tgt := 25) (dtk dt_X11_invert 10 (19, .ifCond .ne 6, 3) rfl) (by decide) (fun c19 => ?_) (fun c19 => ?_)
    · skip
      have hin : (0 ≤ a ∧ a < M 38 o) ∧ (0 ≤ b ∧ b < M 38 o) := by simpa [and_assoc] using c19
      refine x_aload_n (dtk dt_X11_invert 13 (25, .aload_n 0, 1) rfl) rfl ?_
      refine fg_X11_53 rfl (dtk dt_X11_invert 14 (26, .getfield 53, 3) rfl) (wk_0 hO.wf) (wm_0_8 hO.wf) ?_
      refine x_aload (dtk dt_X11_invert 15 (29, .aload 4, 2) rfl) rfl ?_
      refine x_iload_n (dtk dt_X11_invert 16 (31, .iload_n 2, 1) rfl) rfl ?_
      refine x_iload_n (dtk dt_X11_invert 17 (32, .iload_n 3, 1) rfl) rfl ?_
      refine kc_X11_246 rfl (dtk dt_X11_invert 18 (33, .invokevirtual 246, 3) rfl) (c_X1_inverse (G := G)  hO (by omega) (by omega)) rfl rfl (wk_14 hO.wf) (fitR (by decide) (by decide)) (Nat.le_of_ble_eq_true rfl) (uqK (fun M33_1 hs33_1 hE33_1 => ?_))
      have hE := hE33_1
      exact ru_i (dtk dt_X11_invert 19 (36, .ireturn, 1) rfl) rfl (by rw [if_pos (by rw [isTh_y hsp2_0, isTh_y hsp2_0]; exact c19)]) hs33_1 (hL.rc.kp (hs33_1).hi hE)
    · skip
      refine x_ldc (v := -1000000) (dtk dt_X11_invert 11 (22, .ldc 245, 2) rfl) ⟨by decide, by decide⟩ (show Jvm.Cond.constant "HalfOrders" 245 (Int32.ofInt (-1000000)) ∈ mw_tbl from by rw [show Int32.ofInt (-1000000) = (-1000000 : Int32) from by decide]; exact w852) ?_
      exact ru_i (dtk dt_X11_invert 12 (24, .ireturn, 1) rfl) rfl (by first | (rw [isTh_n hsp2_0]; rfl) | (rw [isTh_y hsp2_0, isTh_y hsp2_0, c19]; rfl)) sx.rf hL.rc
  refine kc_X11_86 rfl (dtk dt_X11_invert 2 (2, .invokevirtual 86, 3) rfl) (c_X11_find_no (G := G)  hL.wf (by rw [hL.cnt]; exact hsp2_0)) rfl rfl (wk_0 hL.wf) (fitR (by decide) (by decide)) (Nat.le_of_ble_eq_true rfl) (pqK ?_)
  have hOn := isOr_n hsp2_0
  refine x_astore (dtk dt_X11_invert 3 (5, .astore 4, 2) rfl) (by decide) ?_
  refine x_aload (dtk dt_X11_invert 4 (7, .aload 4, 2) rfl) rfl ?_
  refine x_ifnull (tgt := 22) (dtk dt_X11_invert 5 (9, .ifnull 13, 3) rfl) (by decide) (fun c9 => ?_) (fun c9 => ?_)
  rotate_left
  · exact absurd c9 (by decide)
  refine x_ldc (v := -1000000) (dtk dt_X11_invert 11 (22, .ldc 245, 2) rfl) ⟨by decide, by decide⟩ (show Jvm.Cond.constant "HalfOrders" 245 (Int32.ofInt (-1000000)) ∈ mw_tbl from by rw [show Int32.ofInt (-1000000) = (-1000000 : Int32) from by decide]; exact w852) ?_
  exact ru_i (dtk dt_X11_invert 12 (24, .ireturn, 1) rfl) rfl (by first | (rw [isTh_n hsp2_0]; rfl) | (rw [isTh_y hsp2_0, isTh_y hsp2_0, c19]; rfl)) sx.rf hL.rc
set_option maxRecDepth 100000 in
set_option maxHeartbeats 4000000 in
theorem c_X11_uneven {G : GG} {n : Nat} {K : KK} {M : MM} {o : Int} (hL : LK K M) : MC G mi_X11_uneven 3 0 0 [(1, 0), (0, o)] n K M (UQ sx (some (0, if isOr M o && latt (M 38 o) (dM M o) then une (M 38 o) (dM M o) else -1)) n K M (fun M' => RC K M')) := by
  refine MC.intro (lc := [(0, (1, 0)), (1, (0, o))]) (by decide) rfl (by simp [Nat.ble]) (Nat.le_of_ble_eq_true rfl) rfl (fun hMR => ?_)
  refine x_aload_n (dtk dt_X11_uneven 0 (0, .aload_n 0, 1) rfl) rfl ?_
  refine x_iload_n (dtk dt_X11_uneven 1 (1, .iload_n 1, 1) rfl) rfl ?_
  by_cases hsp2_0 : 0 ≤ o ∧ o < M 36 0
  · skip
    refine kc_X11_86 rfl (dtk dt_X11_uneven 2 (2, .invokevirtual 86, 3) rfl) (c_X11_find (G := G)  hL.wf (by rw [hL.cnt]; exact hsp2_0) (by rw [hL.cnt]; exact hL.c8.2)) rfl rfl (wk_0 hL.wf) (fitR (by decide) (by decide)) (Nat.le_of_ble_eq_true rfl) (pqK ?_)
    have hO := hL.ob hsp2_0
    have hOg := hO.ge
    have hOs := hO.sz
    have hOP := hL.po hsp2_0
    have hOi := isOr_y hsp2_0
    refine x_astore_n (dtk dt_X11_uneven 3 (5, .astore_n 2, 1) rfl) (by decide) ?_
    refine x_aload_n (dtk dt_X11_uneven 4 (6, .aload_n 2, 1) rfl) rfl ?_
    refine x_ifnull (tgt := 21) (dtk dt_X11_uneven 5 (7, .ifnull 14, 3) rfl) (by decide) (fun c7 => ?_) (fun c7 => ?_)
    · exact absurd c7 (by omega)
    refine x_aload_n (dtk dt_X11_uneven 6 (10, .aload_n 0, 1) rfl) rfl ?_
    refine fg_X11_53 rfl (dtk dt_X11_uneven 7 (11, .getfield 53, 3) rfl) (wk_0 hO.wf) (wm_0_8 hO.wf) ?_
    refine x_aload_n (dtk dt_X11_uneven 8 (14, .aload_n 2, 1) rfl) rfl ?_
    refine kc_X11_186 rfl (dtk dt_X11_uneven 9 (15, .invokevirtual 186, 3) rfl) (c_X1_isLattice (G := G)  hO) rfl rfl (wk_14 hO.wf) (fitR (by decide) (by decide)) (Nat.le_of_ble_eq_true rfl) (uqK (fun M15_1 hs15_1 hE15_1 => ?_))
    have hE := hE15_1
    refine x_if_neB (tgt := 23) (dtk dt_X11_uneven 10 (18, .ifCond .ne 5, 3) rfl) (by decide) (fun c18 => ?_) (fun c18 => ?_)
    · skip
      refine x_aload_n (dtk dt_X11_uneven 13 (23, .aload_n 0, 1) rfl) rfl ?_
      refine fg_X11_53 rfl (dtk dt_X11_uneven 14 (24, .getfield 53, 3) rfl) (wk_0 hO.wf) (wm_0_8 (hO.off_sx hs15_1).wf) ?_
      refine x_aload_n (dtk dt_X11_uneven 15 (27, .aload_n 2, 1) rfl) rfl ?_
      refine kc_X11_190 rfl (dtk dt_X11_uneven 16 (28, .invokevirtual 190, 3) rfl) (c_X1_firstUneven (G := G)  (hO.off_sx hs15_1) (hE.2 c18) c18) rfl rfl (wk_14 hO.wf) (fitR (by decide) (by decide)) (Nat.le_of_ble_eq_true rfl) (pqK ?_)
      exact ru_i (dtk dt_X11_uneven 17 (31, .ireturn, 1) rfl) rfl (by rw [if_pos (by rw [hOi, c18]; rfl)]) hs15_1 (by first | exact hL.rc.kp (hs15_1).hi hE.1 | exact hL.rc)
    · skip
      refine x_iconst (v := -1) ⟨by decide, by decide⟩ (dtk dt_X11_uneven 11 (21, .iconst (-1), 1) rfl) ?_
      exact ru_i (dtk dt_X11_uneven 12 (22, .ireturn, 1) rfl) rfl (by first | (rw [hOn]; rfl) | (rw [hOi, c18]; rfl)) hs15_1 (by first | exact hL.rc.kp (hs15_1).hi hE.1 | exact hL.rc)
  refine kc_X11_86 rfl (dtk dt_X11_uneven 2 (2, .invokevirtual 86, 3) rfl) (c_X11_find_no (G := G)  hL.wf (by rw [hL.cnt]; exact hsp2_0)) rfl rfl (wk_0 hL.wf) (fitR (by decide) (by decide)) (Nat.le_of_ble_eq_true rfl) (pqK ?_)
  have hOn := isOr_n hsp2_0
  refine x_astore_n (dtk dt_X11_uneven 3 (5, .astore_n 2, 1) rfl) (by decide) ?_
  refine x_aload_n (dtk dt_X11_uneven 4 (6, .aload_n 2, 1) rfl) rfl ?_
  refine x_ifnull (tgt := 21) (dtk dt_X11_uneven 5 (7, .ifnull 14, 3) rfl) (by decide) (fun c7 => ?_) (fun c7 => ?_)
  rotate_left
  · exact absurd c7 (by decide)
  refine x_iconst (v := -1) ⟨by decide, by decide⟩ (dtk dt_X11_uneven 11 (21, .iconst (-1), 1) rfl) ?_
  exact ru_i (dtk dt_X11_uneven 12 (22, .ireturn, 1) rfl) rfl (by first | (rw [hOn]; rfl) | (rw [hOi, c18]; rfl)) sx.rf (by first | exact hL.rc.kp (hs15_1).hi hE.1 | exact hL.rc)
set_option maxRecDepth 100000 in
set_option maxHeartbeats 4000000 in
theorem c_X11_same {G : GG} {n : Nat} {K : KK} {M : MM} {o q a : Int} (hL : LK K M) : MC G mi_X11_same 18 0 0 [(1, 0), (0, o), (0, q), (0, a)] n K M (UQ sx (some (0, if isTh M o a && isOr M q && decide (M 38 o = M 38 q) then oat (imR (M 38 o) (dM M o) (dM M q)) a else -1)) n K M (fun M' => RC K M')) := by
  refine MC.intro (lc := [(0, (1, 0)), (1, (0, o)), (2, (0, q)), (3, (0, a))]) (by decide) rfl (by simp [Nat.ble]) (Nat.le_of_ble_eq_true rfl) rfl (fun hMR => ?_)
  refine x_aload_n (dtk dt_X11_same 0 (0, .aload_n 0, 1) rfl) rfl ?_
  refine x_iload_n (dtk dt_X11_same 1 (1, .iload_n 1, 1) rfl) rfl ?_
  by_cases hsp2_0 : 0 ≤ o ∧ o < M 36 0
  · skip
    refine kc_X11_86 rfl (dtk dt_X11_same 2 (2, .invokevirtual 86, 3) rfl) (c_X11_find (G := G)  hL.wf (by rw [hL.cnt]; exact hsp2_0) (by rw [hL.cnt]; exact hL.c8.2)) rfl rfl (wk_0 hL.wf) (fitR (by decide) (by decide)) (Nat.le_of_ble_eq_true rfl) (pqK ?_)
    have hO := hL.ob hsp2_0
    have hOg := hO.ge
    have hOs := hO.sz
    have hOP := hL.po hsp2_0
    have hOi := isOr_y hsp2_0
    refine x_astore (dtk dt_X11_same 3 (5, .astore 4, 2) rfl) (by decide) ?_
    refine x_aload_n (dtk dt_X11_same 4 (7, .aload_n 0, 1) rfl) rfl ?_
    refine x_iload_n (dtk dt_X11_same 5 (8, .iload_n 2, 1) rfl) rfl ?_
    by_cases hsp9_0 : 0 ≤ q ∧ q < M 36 0
    · skip
      refine kc_X11_86 rfl (dtk dt_X11_same 6 (9, .invokevirtual 86, 3) rfl) (c_X11_find (G := G)  hL.wf (by rw [hL.cnt]; exact hsp9_0) (by rw [hL.cnt]; exact hL.c8.2)) rfl rfl (wk_0 hO.wf) (fitR (by decide) (by decide)) (Nat.le_of_ble_eq_true rfl) (pqK ?_)
      have hQ := hL.ob hsp9_0
      have hQg := hQ.ge
      have hQs := hQ.sz
      have hQP := hL.po hsp9_0
      have hQi := isOr_y hsp9_0
      refine x_astore (dtk dt_X11_same 7 (12, .astore 5, 2) rfl) (by decide) ?_
      refine x_aload (dtk dt_X11_same 8 (14, .aload 4, 2) rfl) rfl ?_
      refine x_ifnull (tgt := 33) (dtk dt_X11_same 9 (16, .ifnull 17, 3) rfl) (by decide) (fun c16 => ?_) (fun c16 => ?_)
      · exact absurd c16 (by omega)
      refine x_aload (dtk dt_X11_same 10 (19, .aload 5, 2) rfl) rfl ?_
      refine x_ifnull (tgt := 33) (dtk dt_X11_same 11 (21, .ifnull 12, 3) rfl) (by decide) (fun c21 => ?_) (fun c21 => ?_)
      · exact absurd c21 (by omega)
      refine x_aload (dtk dt_X11_same 12 (24, .aload 4, 2) rfl) rfl ?_
      refine x_iload_n (dtk dt_X11_same 13 (26, .iload_n 3, 1) rfl) rfl ?_
      refine kc_X11_205 rfl (dtk dt_X11_same 14 (27, .invokevirtual 205, 3) rfl) (c_X4_hasThing (G := G)  hO) rfl rfl hO.k hO.c (fitR (by decide) (by decide)) (Nat.le_of_ble_eq_true rfl) (pqK ?_)
      refine x_if_neB (tgt := 35) (dtk dt_X11_same 15 (30, .ifCond .ne 5, 3) rfl) (by decide) (fun c30 => ?_) (fun c30 => ?_)
      · skip
        have hin : 0 ≤ a ∧ a < M 38 o := by simpa using c30
        refine x_aload_n (dtk dt_X11_same 18 (35, .aload_n 0, 1) rfl) rfl ?_
        refine fg_X11_60 rfl (dtk dt_X11_same 19 (36, .getfield 60, 3) rfl) (wk_0 hO.wf) (wm_0_9 hO.wf) ?_
        refine x_aload (dtk dt_X11_same 20 (39, .aload 4, 2) rfl) rfl ?_
        refine x_aload (dtk dt_X11_same 21 (41, .aload 5, 2) rfl) rfl ?_
        refine x_iload_n (dtk dt_X11_same 22 (43, .iload_n 3, 1) rfl) rfl ?_
        refine kc_X11_256 rfl (dtk dt_X11_same 23 (44, .invokevirtual 256, 3) rfl) (c_X7_imageOf (G := G)  hO hQ (by omega)) rfl rfl (wk_18 hO.wf) (fitR (by decide) (by decide)) (Nat.le_of_ble_eq_true rfl) (uqK (fun M44_1 hs44_1 hE44_1 => ?_))
        have hE := hE44_1
        exact ru_i (dtk dt_X11_same 24 (47, .ireturn, 1) rfl) rfl (by rw [isTh_y hsp2_0, c30, hQi]; by_cases hq : M 38 o = M 38 q; (rw [if_pos hq, if_pos (by simp; exact hq)]); (rw [if_neg hq, if_neg (by simp; exact hq)])) hs44_1 (hL.rc.kp (hs44_1).hi hE)
      · skip
        refine x_iconst (v := -1) ⟨by decide, by decide⟩ (dtk dt_X11_same 16 (33, .iconst (-1), 1) rfl) ?_
        exact ru_i (dtk dt_X11_same 17 (34, .ireturn, 1) rfl) rfl (by first | (rw [isTh_n hsp2_0]; rfl) | (rw [hQn, Bool.and_false]; rfl) | (rw [isTh_y hsp2_0, c30]; rfl)) sx.rf hL.rc
    refine kc_X11_86 rfl (dtk dt_X11_same 6 (9, .invokevirtual 86, 3) rfl) (c_X11_find_no (G := G)  hL.wf (by rw [hL.cnt]; exact hsp9_0)) rfl rfl (wk_0 hO.wf) (fitR (by decide) (by decide)) (Nat.le_of_ble_eq_true rfl) (pqK ?_)
    have hQn := isOr_n hsp9_0
    refine x_astore (dtk dt_X11_same 7 (12, .astore 5, 2) rfl) (by decide) ?_
    refine x_aload (dtk dt_X11_same 8 (14, .aload 4, 2) rfl) rfl ?_
    refine x_ifnull (tgt := 33) (dtk dt_X11_same 9 (16, .ifnull 17, 3) rfl) (by decide) (fun c16 => ?_) (fun c16 => ?_)
    · exact absurd c16 (by omega)
    refine x_aload (dtk dt_X11_same 10 (19, .aload 5, 2) rfl) rfl ?_
    refine x_ifnull (tgt := 33) (dtk dt_X11_same 11 (21, .ifnull 12, 3) rfl) (by decide) (fun c21 => ?_) (fun c21 => ?_)
    rotate_left
    · exact absurd c21 (by decide)
    refine x_iconst (v := -1) ⟨by decide, by decide⟩ (dtk dt_X11_same 16 (33, .iconst (-1), 1) rfl) ?_
    exact ru_i (dtk dt_X11_same 17 (34, .ireturn, 1) rfl) rfl (by first | (rw [isTh_n hsp2_0]; rfl) | (rw [hQn, Bool.and_false]; rfl) | (rw [isTh_y hsp2_0, c30]; rfl)) sx.rf hL.rc
  refine kc_X11_86 rfl (dtk dt_X11_same 2 (2, .invokevirtual 86, 3) rfl) (c_X11_find_no (G := G)  hL.wf (by rw [hL.cnt]; exact hsp2_0)) rfl rfl (wk_0 hL.wf) (fitR (by decide) (by decide)) (Nat.le_of_ble_eq_true rfl) (pqK ?_)
  have hOn := isOr_n hsp2_0
  refine x_astore (dtk dt_X11_same 3 (5, .astore 4, 2) rfl) (by decide) ?_
  refine x_aload_n (dtk dt_X11_same 4 (7, .aload_n 0, 1) rfl) rfl ?_
  refine x_iload_n (dtk dt_X11_same 5 (8, .iload_n 2, 1) rfl) rfl ?_
  by_cases hsp9_0 : 0 ≤ q ∧ q < M 36 0
  · skip
    refine kc_X11_86 rfl (dtk dt_X11_same 6 (9, .invokevirtual 86, 3) rfl) (c_X11_find (G := G)  hL.wf (by rw [hL.cnt]; exact hsp9_0) (by rw [hL.cnt]; exact hL.c8.2)) rfl rfl (wk_0 hL.wf) (fitR (by decide) (by decide)) (Nat.le_of_ble_eq_true rfl) (pqK ?_)
    have hQ := hL.ob hsp9_0
    have hQg := hQ.ge
    have hQs := hQ.sz
    have hQP := hL.po hsp9_0
    have hQi := isOr_y hsp9_0
    refine x_astore (dtk dt_X11_same 7 (12, .astore 5, 2) rfl) (by decide) ?_
    refine x_aload (dtk dt_X11_same 8 (14, .aload 4, 2) rfl) rfl ?_
    refine x_ifnull (tgt := 33) (dtk dt_X11_same 9 (16, .ifnull 17, 3) rfl) (by decide) (fun c16 => ?_) (fun c16 => ?_)
    rotate_left
    · exact absurd c16 (by decide)
    refine x_iconst (v := -1) ⟨by decide, by decide⟩ (dtk dt_X11_same 16 (33, .iconst (-1), 1) rfl) ?_
    exact ru_i (dtk dt_X11_same 17 (34, .ireturn, 1) rfl) rfl (by first | (rw [isTh_n hsp2_0]; rfl) | (rw [hQn, Bool.and_false]; rfl) | (rw [isTh_y hsp2_0, c30]; rfl)) sx.rf hL.rc
  refine kc_X11_86 rfl (dtk dt_X11_same 6 (9, .invokevirtual 86, 3) rfl) (c_X11_find_no (G := G)  hL.wf (by rw [hL.cnt]; exact hsp9_0)) rfl rfl (wk_0 hL.wf) (fitR (by decide) (by decide)) (Nat.le_of_ble_eq_true rfl) (pqK ?_)
  have hQn := isOr_n hsp9_0
  refine x_astore (dtk dt_X11_same 7 (12, .astore 5, 2) rfl) (by decide) ?_
  refine x_aload (dtk dt_X11_same 8 (14, .aload 4, 2) rfl) rfl ?_
  refine x_ifnull (tgt := 33) (dtk dt_X11_same 9 (16, .ifnull 17, 3) rfl) (by decide) (fun c16 => ?_) (fun c16 => ?_)
  rotate_left
  · exact absurd c16 (by decide)
  refine x_iconst (v := -1) ⟨by decide, by decide⟩ (dtk dt_X11_same 16 (33, .iconst (-1), 1) rfl) ?_
  exact ru_i (dtk dt_X11_same 17 (34, .ireturn, 1) rfl) rfl (by first | (rw [isTh_n hsp2_0]; rfl) | (rw [hQn, Bool.and_false]; rfl) | (rw [isTh_y hsp2_0, c30]; rfl)) sx.rf hL.rc
