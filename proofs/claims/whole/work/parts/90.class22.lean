/-! ===== the class: forging ===== -/
set_option maxRecDepth 100000 in
set_option maxHeartbeats 1000000 in
theorem c_X11_putAmongStacks_0 {G : GG} {n : Nat} {K : KK} {M : MM} {p : Int} (hw : WF K M) (hk : K p = (0, 4)) (hp : 0 ≤ p) : MC G mi_X11_putAmongStacks 2 0 0 [(1, 0), (1, p)] n K M (PQ (some (0, -1)) n K (st2 M 0 11 14)) := by
  refine MC.intro (lc := [(0, (1, 0)), (1, (1, p))]) (by decide) rfl (by simp [Nat.ble]) (Nat.le_of_ble_eq_true rfl) rfl (fun hMR => ?_)
  refine x_aload_n (dtk dt_X11_putAmongStacks 0 (0, .aload_n 1, 1) rfl) rfl ?_
  refine x_ifnonnull (tgt := 10) (dtk dt_X11_putAmongStacks 1 (1, .ifnonnull 9, 3) rfl) (by decide) (fun c1 => ?_) (fun c1 => ?_)
  · skip
    refine x_aload_n (dtk dt_X11_putAmongStacks 6 (10, .aload_n 1, 1) rfl) rfl ?_
    refine x_instNo (dtk dt_X11_putAmongStacks 7 (11, .instanceof 120, 3) rfl) hk cl_4 w448 (by decide) ?_
    refine x_if_eq (tgt := 28) (dtk dt_X11_putAmongStacks 8 (14, .ifCond .eq 14, 3) rfl) (by decide) (fun c14 => ?_) (fun c14 => ?_)
    rotate_left
    · exact absurd (by decide) c14
    refine x_aload_n (dtk dt_X11_putAmongStacks 14 (28, .aload_n 0, 1) rfl) rfl ?_
    refine x_bipush (v := 14) ⟨by decide, by decide⟩ (dtk dt_X11_putAmongStacks 15 (29, .bipush 14, 2) rfl) ?_
    refine kc_X11_71 rfl (dtk dt_X11_putAmongStacks 16 (31, .invokevirtual 71, 3) rfl) (c_X11_refuse (G := G)  hw) rfl rfl (wk_0 hw) (fitR (by decide) (by decide)) (Nat.le_of_ble_eq_true rfl) (pqK ?_)
    exact r_i (dtk dt_X11_putAmongStacks 17 (34, .ireturn, 1) rfl) rfl rfl rfl
  · skip
    exact absurd c1 (by omega)
set_option maxRecDepth 100000 in
set_option maxHeartbeats 1000000 in
theorem c_X11_putAmongStacks_1 {G : GG} {n : Nat} {K : KK} {M : MM} {p : Int} (hw : WF K M) (hk : K p = (0, 9)) (hp : 0 ≤ p) : MC G mi_X11_putAmongStacks 2 0 0 [(1, 0), (1, p)] n K M (PQ (some (0, 1)) n K (st2 M 0 11 0)) := by
  refine MC.intro (lc := [(0, (1, 0)), (1, (1, p))]) (by decide) rfl (by simp [Nat.ble]) (Nat.le_of_ble_eq_true rfl) rfl (fun hMR => ?_)
  refine x_aload_n (dtk dt_X11_putAmongStacks 0 (0, .aload_n 1, 1) rfl) rfl ?_
  refine x_ifnonnull (tgt := 10) (dtk dt_X11_putAmongStacks 1 (1, .ifnonnull 9, 3) rfl) (by decide) (fun c1 => ?_) (fun c1 => ?_)
  · skip
    refine x_aload_n (dtk dt_X11_putAmongStacks 6 (10, .aload_n 1, 1) rfl) rfl ?_
    refine x_instY (dtk dt_X11_putAmongStacks 7 (11, .instanceof 120, 3) rfl) hk cl_9 w448 (by decide) ?_
    refine x_if_eq (tgt := 28) (dtk dt_X11_putAmongStacks 8 (14, .ifCond .eq 14, 3) rfl) (by decide) (fun c14 => ?_) (fun c14 => ?_)
    · exact absurd c14 (by decide)
    refine x_aload_n (dtk dt_X11_putAmongStacks 9 (17, .aload_n 0, 1) rfl) rfl ?_
    refine x_aload_n (dtk dt_X11_putAmongStacks 10 (18, .aload_n 1, 1) rfl) rfl ?_
    refine kc_X11_94_X9 rfl (dtk dt_X11_putAmongStacks 11 (19, .invokevirtual 94, 3) rfl) (c_X9_kind (G := G) (p := p) ) rfl rfl hk (fitR (by decide) (by decide)) (Nat.le_of_ble_eq_true rfl) (pqK ?_)
    refine kc_X11_111 rfl (dtk dt_X11_putAmongStacks 12 (22, .invokevirtual 111, 3) rfl) (c_X11_answer (G := G)  hw) rfl rfl (wk_0 hw) (fitR (by decide) (by decide)) (Nat.le_of_ble_eq_true rfl) (pqK ?_)
    refine x_goto (tgt := 34) (dtk dt_X11_putAmongStacks 13 (25, .goto 9, 3) rfl) (by decide) ?_
    exact r_i (dtk dt_X11_putAmongStacks 17 (34, .ireturn, 1) rfl) rfl rfl rfl
  · skip
    exact absurd c1 (by omega)
set_option maxRecDepth 100000 in
set_option maxHeartbeats 1000000 in
theorem c_X11_putAmongStacks_2 {G : GG} {n : Nat} {K : KK} {M : MM} {p : Int} (hw : WF K M) (hk : K p = (0, 0)) (hp : 0 ≤ p) : MC G mi_X11_putAmongStacks 2 0 0 [(1, 0), (1, p)] n K M (PQ (some (0, 2)) n K (st2 M 0 11 0)) := by
  refine MC.intro (lc := [(0, (1, 0)), (1, (1, p))]) (by decide) rfl (by simp [Nat.ble]) (Nat.le_of_ble_eq_true rfl) rfl (fun hMR => ?_)
  refine x_aload_n (dtk dt_X11_putAmongStacks 0 (0, .aload_n 1, 1) rfl) rfl ?_
  refine x_ifnonnull (tgt := 10) (dtk dt_X11_putAmongStacks 1 (1, .ifnonnull 9, 3) rfl) (by decide) (fun c1 => ?_) (fun c1 => ?_)
  · skip
    refine x_aload_n (dtk dt_X11_putAmongStacks 6 (10, .aload_n 1, 1) rfl) rfl ?_
    refine x_instY (dtk dt_X11_putAmongStacks 7 (11, .instanceof 120, 3) rfl) hk cl_0 w448 (by decide) ?_
    refine x_if_eq (tgt := 28) (dtk dt_X11_putAmongStacks 8 (14, .ifCond .eq 14, 3) rfl) (by decide) (fun c14 => ?_) (fun c14 => ?_)
    · exact absurd c14 (by decide)
    refine x_aload_n (dtk dt_X11_putAmongStacks 9 (17, .aload_n 0, 1) rfl) rfl ?_
    refine x_aload_n (dtk dt_X11_putAmongStacks 10 (18, .aload_n 1, 1) rfl) rfl ?_
    refine kc_X11_94_X0 rfl (dtk dt_X11_putAmongStacks 11 (19, .invokevirtual 94, 3) rfl) (c_X0_kind (G := G) (p := p) ) rfl rfl hk (fitR (by decide) (by decide)) (Nat.le_of_ble_eq_true rfl) (pqK ?_)
    refine kc_X11_111 rfl (dtk dt_X11_putAmongStacks 12 (22, .invokevirtual 111, 3) rfl) (c_X11_answer (G := G)  hw) rfl rfl (wk_0 hw) (fitR (by decide) (by decide)) (Nat.le_of_ble_eq_true rfl) (pqK ?_)
    refine x_goto (tgt := 34) (dtk dt_X11_putAmongStacks 13 (25, .goto 9, 3) rfl) (by decide) ?_
    exact r_i (dtk dt_X11_putAmongStacks 17 (34, .ireturn, 1) rfl) rfl rfl rfl
  · skip
    exact absurd c1 (by omega)
set_option maxRecDepth 100000 in
set_option maxHeartbeats 1000000 in
theorem c_X11_putAmongStacks_3 {G : GG} {n : Nat} {K : KK} {M : MM} {p : Int} (hw : WF K M) (hk : K p = (0, 10)) (hp : 0 ≤ p) : MC G mi_X11_putAmongStacks 2 0 0 [(1, 0), (1, p)] n K M (PQ (some (0, 3)) n K (st2 M 0 11 0)) := by
  refine MC.intro (lc := [(0, (1, 0)), (1, (1, p))]) (by decide) rfl (by simp [Nat.ble]) (Nat.le_of_ble_eq_true rfl) rfl (fun hMR => ?_)
  refine x_aload_n (dtk dt_X11_putAmongStacks 0 (0, .aload_n 1, 1) rfl) rfl ?_
  refine x_ifnonnull (tgt := 10) (dtk dt_X11_putAmongStacks 1 (1, .ifnonnull 9, 3) rfl) (by decide) (fun c1 => ?_) (fun c1 => ?_)
  · skip
    refine x_aload_n (dtk dt_X11_putAmongStacks 6 (10, .aload_n 1, 1) rfl) rfl ?_
    refine x_instY (dtk dt_X11_putAmongStacks 7 (11, .instanceof 120, 3) rfl) hk cl_10 w448 (by decide) ?_
    refine x_if_eq (tgt := 28) (dtk dt_X11_putAmongStacks 8 (14, .ifCond .eq 14, 3) rfl) (by decide) (fun c14 => ?_) (fun c14 => ?_)
    · exact absurd c14 (by decide)
    refine x_aload_n (dtk dt_X11_putAmongStacks 9 (17, .aload_n 0, 1) rfl) rfl ?_
    refine x_aload_n (dtk dt_X11_putAmongStacks 10 (18, .aload_n 1, 1) rfl) rfl ?_
    refine kc_X11_94_X10 rfl (dtk dt_X11_putAmongStacks 11 (19, .invokevirtual 94, 3) rfl) (c_X10_kind (G := G) (p := p) ) rfl rfl hk (fitR (by decide) (by decide)) (Nat.le_of_ble_eq_true rfl) (pqK ?_)
    refine kc_X11_111 rfl (dtk dt_X11_putAmongStacks 12 (22, .invokevirtual 111, 3) rfl) (c_X11_answer (G := G)  hw) rfl rfl (wk_0 hw) (fitR (by decide) (by decide)) (Nat.le_of_ble_eq_true rfl) (pqK ?_)
    refine x_goto (tgt := 34) (dtk dt_X11_putAmongStacks 13 (25, .goto 9, 3) rfl) (by decide) ?_
    exact r_i (dtk dt_X11_putAmongStacks 17 (34, .ireturn, 1) rfl) rfl rfl rfl
  · skip
    exact absurd c1 (by omega)
set_option maxRecDepth 100000 in
set_option maxHeartbeats 1000000 in
theorem c_X11_putAmongStacks_4 {G : GG} {n : Nat} {K : KK} {M : MM} {p : Int} (hw : WF K M) (hk : K p = (0, 2)) (hp : 0 ≤ p) : MC G mi_X11_putAmongStacks 2 0 0 [(1, 0), (1, p)] n K M (PQ (some (0, -1)) n K (st2 M 0 11 14)) := by
  refine MC.intro (lc := [(0, (1, 0)), (1, (1, p))]) (by decide) rfl (by simp [Nat.ble]) (Nat.le_of_ble_eq_true rfl) rfl (fun hMR => ?_)
  refine x_aload_n (dtk dt_X11_putAmongStacks 0 (0, .aload_n 1, 1) rfl) rfl ?_
  refine x_ifnonnull (tgt := 10) (dtk dt_X11_putAmongStacks 1 (1, .ifnonnull 9, 3) rfl) (by decide) (fun c1 => ?_) (fun c1 => ?_)
  · skip
    refine x_aload_n (dtk dt_X11_putAmongStacks 6 (10, .aload_n 1, 1) rfl) rfl ?_
    refine x_instNo (dtk dt_X11_putAmongStacks 7 (11, .instanceof 120, 3) rfl) hk cl_2 w448 (by decide) ?_
    refine x_if_eq (tgt := 28) (dtk dt_X11_putAmongStacks 8 (14, .ifCond .eq 14, 3) rfl) (by decide) (fun c14 => ?_) (fun c14 => ?_)
    rotate_left
    · exact absurd (by decide) c14
    refine x_aload_n (dtk dt_X11_putAmongStacks 14 (28, .aload_n 0, 1) rfl) rfl ?_
    refine x_bipush (v := 14) ⟨by decide, by decide⟩ (dtk dt_X11_putAmongStacks 15 (29, .bipush 14, 2) rfl) ?_
    refine kc_X11_71 rfl (dtk dt_X11_putAmongStacks 16 (31, .invokevirtual 71, 3) rfl) (c_X11_refuse (G := G)  hw) rfl rfl (wk_0 hw) (fitR (by decide) (by decide)) (Nat.le_of_ble_eq_true rfl) (pqK ?_)
    exact r_i (dtk dt_X11_putAmongStacks 17 (34, .ireturn, 1) rfl) rfl rfl rfl
  · skip
    exact absurd c1 (by omega)
set_option maxRecDepth 100000 in
set_option maxHeartbeats 1000000 in
theorem c_X11_putAmongStacks_5 {G : GG} {n : Nat} {K : KK} {M : MM} {p : Int} (hw : WF K M) (hk : K p = (0, 5)) (hp : 0 ≤ p) : MC G mi_X11_putAmongStacks 2 0 0 [(1, 0), (1, p)] n K M (PQ (some (0, 5)) n K (st2 M 0 11 0)) := by
  refine MC.intro (lc := [(0, (1, 0)), (1, (1, p))]) (by decide) rfl (by simp [Nat.ble]) (Nat.le_of_ble_eq_true rfl) rfl (fun hMR => ?_)
  refine x_aload_n (dtk dt_X11_putAmongStacks 0 (0, .aload_n 1, 1) rfl) rfl ?_
  refine x_ifnonnull (tgt := 10) (dtk dt_X11_putAmongStacks 1 (1, .ifnonnull 9, 3) rfl) (by decide) (fun c1 => ?_) (fun c1 => ?_)
  · skip
    refine x_aload_n (dtk dt_X11_putAmongStacks 6 (10, .aload_n 1, 1) rfl) rfl ?_
    refine x_instY (dtk dt_X11_putAmongStacks 7 (11, .instanceof 120, 3) rfl) hk cl_5 w448 (by decide) ?_
    refine x_if_eq (tgt := 28) (dtk dt_X11_putAmongStacks 8 (14, .ifCond .eq 14, 3) rfl) (by decide) (fun c14 => ?_) (fun c14 => ?_)
    · exact absurd c14 (by decide)
    refine x_aload_n (dtk dt_X11_putAmongStacks 9 (17, .aload_n 0, 1) rfl) rfl ?_
    refine x_aload_n (dtk dt_X11_putAmongStacks 10 (18, .aload_n 1, 1) rfl) rfl ?_
    refine kc_X11_94_X5 rfl (dtk dt_X11_putAmongStacks 11 (19, .invokevirtual 94, 3) rfl) (c_X5_kind (G := G) (p := p) ) rfl rfl hk (fitR (by decide) (by decide)) (Nat.le_of_ble_eq_true rfl) (pqK ?_)
    refine kc_X11_111 rfl (dtk dt_X11_putAmongStacks 12 (22, .invokevirtual 111, 3) rfl) (c_X11_answer (G := G)  hw) rfl rfl (wk_0 hw) (fitR (by decide) (by decide)) (Nat.le_of_ble_eq_true rfl) (pqK ?_)
    refine x_goto (tgt := 34) (dtk dt_X11_putAmongStacks 13 (25, .goto 9, 3) rfl) (by decide) ?_
    exact r_i (dtk dt_X11_putAmongStacks 17 (34, .ireturn, 1) rfl) rfl rfl rfl
  · skip
    exact absurd c1 (by omega)
set_option maxRecDepth 100000 in
set_option maxHeartbeats 1000000 in
theorem c_X11_putAmongStacks_n {G : GG} {n : Nat} {K : KK} {M : MM}  (hw : WF K M) : MC G mi_X11_putAmongStacks 2 0 0 [(1, 0), (1, -1)] n K M (PQ (some (0, 0)) n K (st2 M 0 11 0)) := by
  refine MC.intro (lc := [(0, (1, 0)), (1, (1, -1))]) (by decide) rfl (by simp [Nat.ble]) (Nat.le_of_ble_eq_true rfl) rfl (fun hMR => ?_)
  refine x_aload_n (dtk dt_X11_putAmongStacks 0 (0, .aload_n 1, 1) rfl) rfl ?_
  refine x_ifnonnull (tgt := 10) (dtk dt_X11_putAmongStacks 1 (1, .ifnonnull 9, 3) rfl) (by decide) (fun c1 => ?_) (fun c1 => ?_)
  · exact absurd c1 (by decide)
  refine x_aload_n (dtk dt_X11_putAmongStacks 2 (4, .aload_n 0, 1) rfl) rfl ?_
  refine x_iconst (v := 0) ⟨by decide, by decide⟩ (dtk dt_X11_putAmongStacks 3 (5, .iconst 0, 1) rfl) ?_
  refine kc_X11_111 rfl (dtk dt_X11_putAmongStacks 4 (6, .invokevirtual 111, 3) rfl) (c_X11_answer (G := G)  hw) rfl rfl (wk_0 hw) (fitR (by decide) (by decide)) (Nat.le_of_ble_eq_true rfl) (pqK ?_)
  exact r_i (dtk dt_X11_putAmongStacks 5 (9, .ireturn, 1) rfl) rfl rfl rfl
set_option maxRecDepth 100000 in
set_option maxHeartbeats 1000000 in
theorem c_X11_takeForKind_n {G : GG} {n : Nat} {K : KK} {M : MM} {k : Int} (hw : WF K M) : MC G mi_X11_takeForKind 2 0 0 [(1, 0), (1, -1), (0, k)] n K M (PQ (some (0, -1)) n K (st2 M 0 11 10)) := by
  refine MC.intro (lc := [(0, (1, 0)), (1, (1, -1)), (2, (0, k))]) (by decide) rfl (by simp [Nat.ble]) (Nat.le_of_ble_eq_true rfl) rfl (fun hMR => ?_)
  refine x_aload_n (dtk dt_X11_takeForKind 0 (0, .aload_n 1, 1) rfl) rfl ?_
  refine x_ifnonnull (tgt := 11) (dtk dt_X11_takeForKind 1 (1, .ifnonnull 10, 3) rfl) (by decide) (fun c1 => ?_) (fun c1 => ?_)
  · exact absurd c1 (by decide)
  refine x_aload_n (dtk dt_X11_takeForKind 2 (4, .aload_n 0, 1) rfl) rfl ?_
  refine x_bipush (v := 10) ⟨by decide, by decide⟩ (dtk dt_X11_takeForKind 3 (5, .bipush 10, 2) rfl) ?_
  refine kc_X11_71 rfl (dtk dt_X11_takeForKind 4 (7, .invokevirtual 71, 3) rfl) (c_X11_refuse (G := G)  hw) rfl rfl (wk_0 hw) (fitR (by decide) (by decide)) (Nat.le_of_ble_eq_true rfl) (pqK ?_)
  exact r_i (dtk dt_X11_takeForKind 5 (10, .ireturn, 1) rfl) rfl rfl rfl
set_option maxRecDepth 100000 in
set_option maxHeartbeats 1000000 in
theorem c_X11_forge {G : GG} {n : Nat} {K : KK} {M : MM} {w q k : Int} (hL : LK K M) : MC G mi_X11_forge 5 0 0 [(1, 0), (0, w), (0, q), (0, k)] n K M (PQ (some (0, if fgOk w q k then fgR M w q (mdl k 8) (mdl k 4) else -1)) n K (if fgOk w q k then st2 M 0 11 (fgS M w q (mdl k 8) (mdl k 4)) else st2 M 0 11 1)) := by
  refine MC.intro (lc := [(0, (1, 0)), (1, (0, w)), (2, (0, q)), (3, (0, k))]) (by decide) rfl (by simp [Nat.ble]) (Nat.le_of_ble_eq_true rfl) rfl (fun hMR => ?_)
  refine x_iload_n (dtk dt_X11_forge 0 (0, .iload_n 2, 1) rfl) rfl ?_
  refine x_bipush (v := -100) ⟨by decide, by decide⟩ (dtk dt_X11_forge 1 (1, .bipush (-100), 2) rfl) ?_
  refine x_icmp_lt (tgt := 24) (dtk dt_X11_forge 2 (3, .if_icmp .lt 21, 3) rfl) (by decide) (fun c3 => ?_) (fun c3 => ?_)
  · skip
    refine x_aload_n (dtk dt_X11_forge 12 (24, .aload_n 0, 1) rfl) rfl ?_
    refine x_iconst (v := 1) ⟨by decide, by decide⟩ (dtk dt_X11_forge 13 (25, .iconst 1, 1) rfl) ?_
    refine kc_X11_71 rfl (dtk dt_X11_forge 14 (26, .invokevirtual 71, 3) rfl) (c_X11_refuse (G := G)  hL.wf) rfl rfl (wk_0 hL.wf) (fitR (by decide) (by decide)) (Nat.le_of_ble_eq_true rfl) (pqK ?_)
    exact r_i (dtk dt_X11_forge 15 (29, .ireturn, 1) rfl) rfl (by rw [if_neg (show ¬ fgOk w q k = true by (unfold fgOk; simp; omega))]) (by rw [if_neg (show ¬ fgOk w q k = true by (unfold fgOk; simp; omega))])
  · skip
    refine x_iload_n (dtk dt_X11_forge 3 (6, .iload_n 2, 1) rfl) rfl ?_
    refine x_bipush (v := 100) ⟨by decide, by decide⟩ (dtk dt_X11_forge 4 (7, .bipush 100, 2) rfl) ?_
    refine x_icmp_gt (tgt := 24) (dtk dt_X11_forge 5 (9, .if_icmp .gt 15, 3) rfl) (by decide) (fun c9 => ?_) (fun c9 => ?_)
    · skip
      refine x_aload_n (dtk dt_X11_forge 12 (24, .aload_n 0, 1) rfl) rfl ?_
      refine x_iconst (v := 1) ⟨by decide, by decide⟩ (dtk dt_X11_forge 13 (25, .iconst 1, 1) rfl) ?_
      refine kc_X11_71 rfl (dtk dt_X11_forge 14 (26, .invokevirtual 71, 3) rfl) (c_X11_refuse (G := G)  hL.wf) rfl rfl (wk_0 hL.wf) (fitR (by decide) (by decide)) (Nat.le_of_ble_eq_true rfl) (pqK ?_)
      exact r_i (dtk dt_X11_forge 15 (29, .ireturn, 1) rfl) rfl (by rw [if_neg (show ¬ fgOk w q k = true by (unfold fgOk; simp; omega))]) (by rw [if_neg (show ¬ fgOk w q k = true by (unfold fgOk; simp; omega))])
    · skip
      refine x_iload_n (dtk dt_X11_forge 6 (12, .iload_n 3, 1) rfl) rfl ?_
      refine x_bipush (v := -100) ⟨by decide, by decide⟩ (dtk dt_X11_forge 7 (13, .bipush (-100), 2) rfl) ?_
      refine x_icmp_lt (tgt := 24) (dtk dt_X11_forge 8 (15, .if_icmp .lt 9, 3) rfl) (by decide) (fun c15 => ?_) (fun c15 => ?_)
      · skip
        refine x_aload_n (dtk dt_X11_forge 12 (24, .aload_n 0, 1) rfl) rfl ?_
        refine x_iconst (v := 1) ⟨by decide, by decide⟩ (dtk dt_X11_forge 13 (25, .iconst 1, 1) rfl) ?_
        refine kc_X11_71 rfl (dtk dt_X11_forge 14 (26, .invokevirtual 71, 3) rfl) (c_X11_refuse (G := G)  hL.wf) rfl rfl (wk_0 hL.wf) (fitR (by decide) (by decide)) (Nat.le_of_ble_eq_true rfl) (pqK ?_)
        exact r_i (dtk dt_X11_forge 15 (29, .ireturn, 1) rfl) rfl (by rw [if_neg (show ¬ fgOk w q k = true by (unfold fgOk; simp; omega))]) (by rw [if_neg (show ¬ fgOk w q k = true by (unfold fgOk; simp; omega))])
      · skip
        refine x_iload_n (dtk dt_X11_forge 9 (18, .iload_n 3, 1) rfl) rfl ?_
        refine x_bipush (v := 100) ⟨by decide, by decide⟩ (dtk dt_X11_forge 10 (19, .bipush 100, 2) rfl) ?_
        refine x_icmp_le (tgt := 30) (dtk dt_X11_forge 11 (21, .if_icmp .le 9, 3) rfl) (by decide) (fun c21 => ?_) (fun c21 => ?_)
        · skip
          refine x_iload_n (dtk dt_X11_forge 16 (30, .iload_n 1, 1) rfl) rfl ?_
          by_cases s31_0 : w = 0
          · skip
            refine x_tsIn (tgt := 72) (off := 41) (dtk dt_X11_forge 17 (31, .tableswitch 172 0 6 #[41, 62, 81, 96, 111, 126, 149], 41) rfl) (by omega) (by omega) (by rw [s31_0]; rfl) (by decide) ?_
            refine x_aload_n (dtk dt_X11_forge 18 (72, .aload_n 0, 1) rfl) rfl ?_
            refine x_aload_n (dtk dt_X11_forge 19 (73, .aload_n 0, 1) rfl) rfl ?_
            refine x_iload_n (dtk dt_X11_forge 20 (74, .iload_n 3, 1) rfl) rfl ?_
            refine x_bipush (v := 8) ⟨by decide, by decide⟩ (dtk dt_X11_forge 21 (75, .bipush 8, 2) rfl) ?_
            refine kc_X11_322 rfl (dtk dt_X11_forge 22 (77, .invokestatic 322, 3) rfl) (c_J9_floorMod_7cf53 (G := G)  (by omega) (by decide)) rfl rfl (fitR (by decide) (by decide)) (Nat.le_of_ble_eq_true rfl) (pqK ?_)
            by_cases hsp80_0 : 0 ≤ (mdl k 8) ∧ (mdl k 8) < M 36 0
            · skip
              refine kc_X11_86 rfl (dtk dt_X11_forge 23 (80, .invokevirtual 86, 3) rfl) (c_X11_find (G := G)  hL.wf (by rw [hL.cnt]; exact hsp80_0) (by rw [hL.cnt]; exact hL.c8.2)) rfl rfl (wk_0 hL.wf) (fitR (by decide) (by decide)) (Nat.le_of_ble_eq_true rfl) (pqK ?_)
              have hO := hL.ob hsp80_0
              have hOg := hO.ge
              have hOs := hO.sz
              have hOP := hL.po hsp80_0
              have hOi := isOr_y hsp80_0
              have hkd := hL.kd hsp80_0
              refine x_iload_n (dtk dt_X11_forge 24 (83, .iload_n 2, 1) rfl) rfl ?_
              refine x_bipush (v := 6) ⟨by decide, by decide⟩ (dtk dt_X11_forge 25 (84, .bipush 6, 2) rfl) ?_
              refine kc_X11_322 rfl (dtk dt_X11_forge 26 (86, .invokestatic 322, 3) rfl) (c_J9_floorMod_7cf53 (G := G)  (by omega) (by decide)) rfl rfl (fitR (by decide) (by decide)) (Nat.le_of_ble_eq_true rfl) (pqK ?_)
              refine kc_X11_327 rfl (dtk dt_X11_forge 27 (89, .invokevirtual 327, 3) rfl) (c_X11_takeForKind (G := G)  hL.wf hO hkd (by have z := mdl_in (x := q) (k := 6) (by decide); omega)) rfl rfl (wk_0 hL.wf) (fitR (by decide) (by decide)) (Nat.le_of_ble_eq_true rfl) (pqK ?_)
              exact r_i (dtk dt_X11_forge 28 (92, .ireturn, 1) rfl) rfl (by have hok : fgOk w q k = true := (by (unfold fgOk; simp; omega)); rw [if_pos hok]; unfold fgR; rw [if_pos s31_0]; first | (rw [isOr_n hsp80_0]; rfl) | (rw [isOr_y hsp80_0]; rfl)) (by have hok : fgOk w q k = true := (by (unfold fgOk; simp; omega)); rw [if_pos hok]; unfold fgS; rw [if_pos s31_0]; first | (rw [isOr_n hsp80_0]; rfl) | (rw [isOr_y hsp80_0]; rfl))
            refine kc_X11_86 rfl (dtk dt_X11_forge 23 (80, .invokevirtual 86, 3) rfl) (c_X11_find_no (G := G)  hL.wf (by rw [hL.cnt]; exact hsp80_0)) rfl rfl (wk_0 hL.wf) (fitR (by decide) (by decide)) (Nat.le_of_ble_eq_true rfl) (pqK ?_)
            have hOn := isOr_n hsp80_0
            refine x_iload_n (dtk dt_X11_forge 24 (83, .iload_n 2, 1) rfl) rfl ?_
            refine x_bipush (v := 6) ⟨by decide, by decide⟩ (dtk dt_X11_forge 25 (84, .bipush 6, 2) rfl) ?_
            refine kc_X11_322 rfl (dtk dt_X11_forge 26 (86, .invokestatic 322, 3) rfl) (c_J9_floorMod_7cf53 (G := G)  (by omega) (by decide)) rfl rfl (fitR (by decide) (by decide)) (Nat.le_of_ble_eq_true rfl) (pqK ?_)
            refine kc_X11_327 rfl (dtk dt_X11_forge 27 (89, .invokevirtual 327, 3) rfl) (c_X11_takeForKind_n (G := G)  hL.wf) rfl rfl (wk_0 hL.wf) (fitR (by decide) (by decide)) (Nat.le_of_ble_eq_true rfl) (pqK ?_)
            exact r_i (dtk dt_X11_forge 28 (92, .ireturn, 1) rfl) rfl (by have hok : fgOk w q k = true := (by (unfold fgOk; simp; omega)); rw [if_pos hok]; unfold fgR; rw [if_pos s31_0]; first | (rw [isOr_n hsp80_0]; rfl) | (rw [isOr_y hsp80_0]; rfl)) (by have hok : fgOk w q k = true := (by (unfold fgOk; simp; omega)); rw [if_pos hok]; unfold fgS; rw [if_pos s31_0]; first | (rw [isOr_n hsp80_0]; rfl) | (rw [isOr_y hsp80_0]; rfl))
          by_cases s31_1 : w = 1
          · skip
            refine x_tsIn (tgt := 93) (off := 62) (dtk dt_X11_forge 17 (31, .tableswitch 172 0 6 #[41, 62, 81, 96, 111, 126, 149], 41) rfl) (by omega) (by omega) (by rw [s31_1]; rfl) (by decide) ?_
            refine x_iload_n (dtk dt_X11_forge 29 (93, .iload_n 2, 1) rfl) rfl ?_
            refine x_if_ge (tgt := 106) (dtk dt_X11_forge 30 (94, .ifCond .ge 12, 3) rfl) (by decide) (fun c94 => ?_) (fun c94 => ?_)
            · skip
              refine x_aload_n (dtk dt_X11_forge 35 (106, .aload_n 0, 1) rfl) rfl ?_
              refine x_iload_n (dtk dt_X11_forge 36 (107, .iload_n 2, 1) rfl) rfl ?_
              refine kc_X11_111 rfl (dtk dt_X11_forge 37 (108, .invokevirtual 111, 3) rfl) (c_X11_answer (G := G)  hL.wf) rfl rfl (wk_0 hL.wf) (fitR (by decide) (by decide)) (Nat.le_of_ble_eq_true rfl) (pqK ?_)
              exact r_i (dtk dt_X11_forge 38 (111, .ireturn, 1) rfl) rfl (by have hok : fgOk w q k = true := (by (unfold fgOk; simp; omega)); rw [if_pos hok]; unfold fgR; rw [if_neg (show ¬ w = 0 by omega)]; rw [if_pos s31_1]; first | (rw [if_pos (by omega)]; done) | (rw [if_neg (by omega)])) (by have hok : fgOk w q k = true := (by (unfold fgOk; simp; omega)); rw [if_pos hok]; unfold fgS; rw [if_neg (show ¬ w = 0 by omega)]; rw [if_pos s31_1]; first | (rw [if_pos (by omega)]; done) | (rw [if_neg (by omega)]))
            · skip
              refine x_aload_n (dtk dt_X11_forge 31 (97, .aload_n 0, 1) rfl) rfl ?_
              refine x_bipush (v := 13) ⟨by decide, by decide⟩ (dtk dt_X11_forge 32 (98, .bipush 13, 2) rfl) ?_
              refine kc_X11_71 rfl (dtk dt_X11_forge 33 (100, .invokevirtual 71, 3) rfl) (c_X11_refuse (G := G)  hL.wf) rfl rfl (wk_0 hL.wf) (fitR (by decide) (by decide)) (Nat.le_of_ble_eq_true rfl) (pqK ?_)
              refine x_goto (tgt := 111) (dtk dt_X11_forge 34 (103, .goto 8, 3) rfl) (by decide) ?_
              exact r_i (dtk dt_X11_forge 38 (111, .ireturn, 1) rfl) rfl (by have hok : fgOk w q k = true := (by (unfold fgOk; simp; omega)); rw [if_pos hok]; unfold fgR; rw [if_neg (show ¬ w = 0 by omega)]; rw [if_pos s31_1]; first | (rw [if_pos (by omega)]; done) | (rw [if_neg (by omega)])) (by have hok : fgOk w q k = true := (by (unfold fgOk; simp; omega)); rw [if_pos hok]; unfold fgS; rw [if_neg (show ¬ w = 0 by omega)]; rw [if_pos s31_1]; first | (rw [if_pos (by omega)]; done) | (rw [if_neg (by omega)]))
          by_cases s31_2 : w = 2
          · skip
            refine x_tsIn (tgt := 112) (off := 81) (dtk dt_X11_forge 17 (31, .tableswitch 172 0 6 #[41, 62, 81, 96, 111, 126, 149], 41) rfl) (by omega) (by omega) (by rw [s31_2]; rfl) (by decide) ?_
            refine x_aload_n (dtk dt_X11_forge 39 (112, .aload_n 0, 1) rfl) rfl ?_
            refine x_aload_n (dtk dt_X11_forge 40 (113, .aload_n 0, 1) rfl) rfl ?_
            refine x_iload_n (dtk dt_X11_forge 41 (114, .iload_n 3, 1) rfl) rfl ?_
            refine x_iconst (v := 4) ⟨by decide, by decide⟩ (dtk dt_X11_forge 42 (115, .iconst 4, 1) rfl) ?_
            refine kc_X11_322 rfl (dtk dt_X11_forge 43 (116, .invokestatic 322, 3) rfl) (c_J9_floorMod_7cf53 (G := G)  (by omega) (by decide)) rfl rfl (fitR (by decide) (by decide)) (Nat.le_of_ble_eq_true rfl) (pqK ?_)
            refine kc_X11_296 rfl (dtk dt_X11_forge 44 (119, .invokevirtual 296, 3) rfl) (c_X11_findSheet (G := G)  hL.wf (mdl_in (by decide))) rfl rfl (wk_0 hL.wf) (fitR (by decide) (by decide)) (Nat.le_of_ble_eq_true rfl) (pqK ?_)
            have hk4 := mdl_in (x := k) (k := 4) (by decide)
            have hs := (sf_at hL.wf hk4).1
            have hsL := hL.ls (mdl k 4) hk4.1 hk4.2
            have hsz : 0 ≤ M (28 + 2 * (mdl k 4)) 2 ∧ M (28 + 2 * (mdl k 4)) 2 ≤ 20 := by (rw [hsL.1.2]; exact hsL.2.2.1)
            refine x_iload_n (dtk dt_X11_forge 45 (122, .iload_n 2, 1) rfl) rfl ?_
            refine kc_X11_330 rfl (dtk dt_X11_forge 46 (123, .invokevirtual 330, 3) rfl) (c_X11_readShort (G := G)  hL.wf hs hsL hk4) rfl rfl (wk_0 hL.wf) (fitR (by decide) (by decide)) (Nat.le_of_ble_eq_true rfl) (pqK ?_)
            exact r_i (dtk dt_X11_forge 47 (126, .ireturn, 1) rfl) rfl (by have hok : fgOk w q k = true := (by (unfold fgOk; simp; omega)); rw [if_pos hok]; unfold fgR; rw [if_neg (show ¬ w = 0 by omega)]; rw [if_neg (show ¬ w = 1 by omega)]; rw [if_pos s31_2]; exact rsW_v2) (by have hok : fgOk w q k = true := (by (unfold fgOk; simp; omega)); rw [if_pos hok]; unfold fgS; rw [if_neg (show ¬ w = 0 by omega)]; rw [if_neg (show ¬ w = 1 by omega)]; rw [if_pos s31_2]; rfl)
          by_cases s31_3 : w = 3
          · skip
            refine x_tsIn (tgt := 127) (off := 96) (dtk dt_X11_forge 17 (31, .tableswitch 172 0 6 #[41, 62, 81, 96, 111, 126, 149], 41) rfl) (by omega) (by omega) (by rw [s31_3]; rfl) (by decide) ?_
            refine x_aload_n (dtk dt_X11_forge 48 (127, .aload_n 0, 1) rfl) rfl ?_
            refine x_aload_n (dtk dt_X11_forge 49 (128, .aload_n 0, 1) rfl) rfl ?_
            refine x_iload_n (dtk dt_X11_forge 50 (129, .iload_n 3, 1) rfl) rfl ?_
            refine x_iconst (v := 4) ⟨by decide, by decide⟩ (dtk dt_X11_forge 51 (130, .iconst 4, 1) rfl) ?_
            refine kc_X11_322 rfl (dtk dt_X11_forge 52 (131, .invokestatic 322, 3) rfl) (c_J9_floorMod_7cf53 (G := G)  (by omega) (by decide)) rfl rfl (fitR (by decide) (by decide)) (Nat.le_of_ble_eq_true rfl) (pqK ?_)
            refine kc_X11_296 rfl (dtk dt_X11_forge 53 (134, .invokevirtual 296, 3) rfl) (c_X11_findSheet (G := G)  hL.wf (mdl_in (by decide))) rfl rfl (wk_0 hL.wf) (fitR (by decide) (by decide)) (Nat.le_of_ble_eq_true rfl) (pqK ?_)
            have hk4 := mdl_in (x := k) (k := 4) (by decide)
            have hs := (sf_at hL.wf hk4).1
            have hsL := hL.ls (mdl k 4) hk4.1 hk4.2
            have hsz : 0 ≤ M (28 + 2 * (mdl k 4)) 2 ∧ M (28 + 2 * (mdl k 4)) 2 ≤ 20 := by (rw [hsL.1.2]; exact hsL.2.2.1)
            refine x_iload_n (dtk dt_X11_forge 54 (137, .iload_n 2, 1) rfl) rfl ?_
            refine kc_X11_334 rfl (dtk dt_X11_forge 55 (138, .invokevirtual 334, 3) rfl) (c_X11_copyBytes (G := G)  hL.wf hs hsL hk4 (by omega) (fun j => hMR _ _)) rfl rfl (wk_0 hL.wf) (fitR (by decide) (by decide)) (Nat.le_of_ble_eq_true rfl) (pqK ?_)
            exact r_i (dtk dt_X11_forge 56 (141, .ireturn, 1) rfl) rfl (by have hok : fgOk w q k = true := (by (unfold fgOk; simp; omega)); rw [if_pos hok]; unfold fgR; rw [if_neg (show ¬ w = 0 by omega)]; rw [if_neg (show ¬ w = 1 by omega)]; rw [if_neg (show ¬ w = 2 by omega)]; rw [if_pos s31_3]; exact cbW_v2) (by have hok : fgOk w q k = true := (by (unfold fgOk; simp; omega)); rw [if_pos hok]; unfold fgS; rw [if_neg (show ¬ w = 0 by omega)]; rw [if_neg (show ¬ w = 1 by omega)]; rw [if_neg (show ¬ w = 2 by omega)]; rw [if_pos s31_3]; rfl)
          by_cases s31_4 : w = 4
          · skip
            refine x_tsIn (tgt := 142) (off := 111) (dtk dt_X11_forge 17 (31, .tableswitch 172 0 6 #[41, 62, 81, 96, 111, 126, 149], 41) rfl) (by omega) (by omega) (by rw [s31_4]; rfl) (by decide) ?_
            refine x_aload_n (dtk dt_X11_forge 57 (142, .aload_n 0, 1) rfl) rfl ?_
            refine x_aload_n (dtk dt_X11_forge 58 (143, .aload_n 0, 1) rfl) rfl ?_
            refine x_iload_n (dtk dt_X11_forge 59 (144, .iload_n 3, 1) rfl) rfl ?_
            refine x_bipush (v := 8) ⟨by decide, by decide⟩ (dtk dt_X11_forge 60 (145, .bipush 8, 2) rfl) ?_
            refine kc_X11_322 rfl (dtk dt_X11_forge 61 (147, .invokestatic 322, 3) rfl) (c_J9_floorMod_7cf53 (G := G)  (by omega) (by decide)) rfl rfl (fitR (by decide) (by decide)) (Nat.le_of_ble_eq_true rfl) (pqK ?_)
            by_cases hsp150_0 : 0 ≤ (mdl k 8) ∧ (mdl k 8) < M 36 0
            · skip
              refine kc_X11_86 rfl (dtk dt_X11_forge 62 (150, .invokevirtual 86, 3) rfl) (c_X11_find (G := G)  hL.wf (by rw [hL.cnt]; exact hsp150_0) (by rw [hL.cnt]; exact hL.c8.2)) rfl rfl (wk_0 hL.wf) (fitR (by decide) (by decide)) (Nat.le_of_ble_eq_true rfl) (pqK ?_)
              have hO := hL.ob hsp150_0
              have hOg := hO.ge
              have hOs := hO.sz
              have hOP := hL.po hsp150_0
              have hOi := isOr_y hsp150_0
              have hkd := hL.kd hsp150_0
              by_cases hsp153_0 : M 37 (mdl k 8) = 0
              · skip
                refine kc_X11_337 rfl (dtk dt_X11_forge 63 (153, .invokevirtual 337, 3) rfl) (c_X11_putAmongStacks_0 (G := G) (p := M 1 (mdl k 8)) hL.wf (by rw [hO.k, hsp153_0]; rfl) (by omega)) rfl rfl (wk_0 hL.wf) (fitR (by decide) (by decide)) (Nat.le_of_ble_eq_true rfl) (pqK ?_)
                exact r_i (dtk dt_X11_forge 64 (156, .ireturn, 1) rfl) rfl (by have hok : fgOk w q k = true := (by (unfold fgOk; simp; omega)); rw [if_pos hok]; unfold fgR; rw [if_neg (show ¬ w = 0 by omega)]; rw [if_neg (show ¬ w = 1 by omega)]; rw [if_neg (show ¬ w = 2 by omega)]; rw [if_neg (show ¬ w = 3 by omega)]; rw [if_pos s31_4]; first | (rw [isOr_n hsp150_0]; rfl) | (rw [isOr_y hsp150_0]; simp_all [isSt]; done)) (by have hok : fgOk w q k = true := (by (unfold fgOk; simp; omega)); rw [if_pos hok]; unfold fgS; rw [if_neg (show ¬ w = 0 by omega)]; rw [if_neg (show ¬ w = 1 by omega)]; rw [if_neg (show ¬ w = 2 by omega)]; rw [if_neg (show ¬ w = 3 by omega)]; rw [if_pos s31_4]; first | (rw [isOr_n hsp150_0]; rfl) | (rw [isOr_y hsp150_0]; simp_all [isSt]; done))
              by_cases hsp153_1 : M 37 (mdl k 8) = 1
              · skip
                refine kc_X11_337 rfl (dtk dt_X11_forge 63 (153, .invokevirtual 337, 3) rfl) (c_X11_putAmongStacks_1 (G := G) (p := M 1 (mdl k 8)) hL.wf (by rw [hO.k, hsp153_1]; rfl) (by omega)) rfl rfl (wk_0 hL.wf) (fitR (by decide) (by decide)) (Nat.le_of_ble_eq_true rfl) (pqK ?_)
                exact r_i (dtk dt_X11_forge 64 (156, .ireturn, 1) rfl) rfl (by have hok : fgOk w q k = true := (by (unfold fgOk; simp; omega)); rw [if_pos hok]; unfold fgR; rw [if_neg (show ¬ w = 0 by omega)]; rw [if_neg (show ¬ w = 1 by omega)]; rw [if_neg (show ¬ w = 2 by omega)]; rw [if_neg (show ¬ w = 3 by omega)]; rw [if_pos s31_4]; first | (rw [isOr_n hsp150_0]; rfl) | (rw [isOr_y hsp150_0]; simp_all [isSt]; done)) (by have hok : fgOk w q k = true := (by (unfold fgOk; simp; omega)); rw [if_pos hok]; unfold fgS; rw [if_neg (show ¬ w = 0 by omega)]; rw [if_neg (show ¬ w = 1 by omega)]; rw [if_neg (show ¬ w = 2 by omega)]; rw [if_neg (show ¬ w = 3 by omega)]; rw [if_pos s31_4]; first | (rw [isOr_n hsp150_0]; rfl) | (rw [isOr_y hsp150_0]; simp_all [isSt]; done))
              by_cases hsp153_2 : M 37 (mdl k 8) = 2
              · skip
                refine kc_X11_337 rfl (dtk dt_X11_forge 63 (153, .invokevirtual 337, 3) rfl) (c_X11_putAmongStacks_2 (G := G) (p := M 1 (mdl k 8)) hL.wf (by rw [hO.k, hsp153_2]; rfl) (by omega)) rfl rfl (wk_0 hL.wf) (fitR (by decide) (by decide)) (Nat.le_of_ble_eq_true rfl) (pqK ?_)
                exact r_i (dtk dt_X11_forge 64 (156, .ireturn, 1) rfl) rfl (by have hok : fgOk w q k = true := (by (unfold fgOk; simp; omega)); rw [if_pos hok]; unfold fgR; rw [if_neg (show ¬ w = 0 by omega)]; rw [if_neg (show ¬ w = 1 by omega)]; rw [if_neg (show ¬ w = 2 by omega)]; rw [if_neg (show ¬ w = 3 by omega)]; rw [if_pos s31_4]; first | (rw [isOr_n hsp150_0]; rfl) | (rw [isOr_y hsp150_0]; simp_all [isSt]; done)) (by have hok : fgOk w q k = true := (by (unfold fgOk; simp; omega)); rw [if_pos hok]; unfold fgS; rw [if_neg (show ¬ w = 0 by omega)]; rw [if_neg (show ¬ w = 1 by omega)]; rw [if_neg (show ¬ w = 2 by omega)]; rw [if_neg (show ¬ w = 3 by omega)]; rw [if_pos s31_4]; first | (rw [isOr_n hsp150_0]; rfl) | (rw [isOr_y hsp150_0]; simp_all [isSt]; done))
              by_cases hsp153_3 : M 37 (mdl k 8) = 3
              · skip
                refine kc_X11_337 rfl (dtk dt_X11_forge 63 (153, .invokevirtual 337, 3) rfl) (c_X11_putAmongStacks_3 (G := G) (p := M 1 (mdl k 8)) hL.wf (by rw [hO.k, hsp153_3]; rfl) (by omega)) rfl rfl (wk_0 hL.wf) (fitR (by decide) (by decide)) (Nat.le_of_ble_eq_true rfl) (pqK ?_)
                exact r_i (dtk dt_X11_forge 64 (156, .ireturn, 1) rfl) rfl (by have hok : fgOk w q k = true := (by (unfold fgOk; simp; omega)); rw [if_pos hok]; unfold fgR; rw [if_neg (show ¬ w = 0 by omega)]; rw [if_neg (show ¬ w = 1 by omega)]; rw [if_neg (show ¬ w = 2 by omega)]; rw [if_neg (show ¬ w = 3 by omega)]; rw [if_pos s31_4]; first | (rw [isOr_n hsp150_0]; rfl) | (rw [isOr_y hsp150_0]; simp_all [isSt]; done)) (by have hok : fgOk w q k = true := (by (unfold fgOk; simp; omega)); rw [if_pos hok]; unfold fgS; rw [if_neg (show ¬ w = 0 by omega)]; rw [if_neg (show ¬ w = 1 by omega)]; rw [if_neg (show ¬ w = 2 by omega)]; rw [if_neg (show ¬ w = 3 by omega)]; rw [if_pos s31_4]; first | (rw [isOr_n hsp150_0]; rfl) | (rw [isOr_y hsp150_0]; simp_all [isSt]; done))
              by_cases hsp153_4 : M 37 (mdl k 8) = 4
              · skip
                refine kc_X11_337 rfl (dtk dt_X11_forge 63 (153, .invokevirtual 337, 3) rfl) (c_X11_putAmongStacks_4 (G := G) (p := M 1 (mdl k 8)) hL.wf (by rw [hO.k, hsp153_4]; rfl) (by omega)) rfl rfl (wk_0 hL.wf) (fitR (by decide) (by decide)) (Nat.le_of_ble_eq_true rfl) (pqK ?_)
                exact r_i (dtk dt_X11_forge 64 (156, .ireturn, 1) rfl) rfl (by have hok : fgOk w q k = true := (by (unfold fgOk; simp; omega)); rw [if_pos hok]; unfold fgR; rw [if_neg (show ¬ w = 0 by omega)]; rw [if_neg (show ¬ w = 1 by omega)]; rw [if_neg (show ¬ w = 2 by omega)]; rw [if_neg (show ¬ w = 3 by omega)]; rw [if_pos s31_4]; first | (rw [isOr_n hsp150_0]; rfl) | (rw [isOr_y hsp150_0]; simp_all [isSt]; done)) (by have hok : fgOk w q k = true := (by (unfold fgOk; simp; omega)); rw [if_pos hok]; unfold fgS; rw [if_neg (show ¬ w = 0 by omega)]; rw [if_neg (show ¬ w = 1 by omega)]; rw [if_neg (show ¬ w = 2 by omega)]; rw [if_neg (show ¬ w = 3 by omega)]; rw [if_pos s31_4]; first | (rw [isOr_n hsp150_0]; rfl) | (rw [isOr_y hsp150_0]; simp_all [isSt]; done))
              have hk5 : M 37 (mdl k 8) = 5 := by omega
              refine kc_X11_337 rfl (dtk dt_X11_forge 63 (153, .invokevirtual 337, 3) rfl) (c_X11_putAmongStacks_5 (G := G) (p := M 1 (mdl k 8)) hL.wf (by rw [hO.k, hk5]; rfl) (by omega)) rfl rfl (wk_0 hL.wf) (fitR (by decide) (by decide)) (Nat.le_of_ble_eq_true rfl) (pqK ?_)
              exact r_i (dtk dt_X11_forge 64 (156, .ireturn, 1) rfl) rfl (by have hok : fgOk w q k = true := (by (unfold fgOk; simp; omega)); rw [if_pos hok]; unfold fgR; rw [if_neg (show ¬ w = 0 by omega)]; rw [if_neg (show ¬ w = 1 by omega)]; rw [if_neg (show ¬ w = 2 by omega)]; rw [if_neg (show ¬ w = 3 by omega)]; rw [if_pos s31_4]; first | (rw [isOr_n hsp150_0]; rfl) | (rw [isOr_y hsp150_0]; simp_all [isSt]; done)) (by have hok : fgOk w q k = true := (by (unfold fgOk; simp; omega)); rw [if_pos hok]; unfold fgS; rw [if_neg (show ¬ w = 0 by omega)]; rw [if_neg (show ¬ w = 1 by omega)]; rw [if_neg (show ¬ w = 2 by omega)]; rw [if_neg (show ¬ w = 3 by omega)]; rw [if_pos s31_4]; first | (rw [isOr_n hsp150_0]; rfl) | (rw [isOr_y hsp150_0]; simp_all [isSt]; done))
            refine kc_X11_86 rfl (dtk dt_X11_forge 62 (150, .invokevirtual 86, 3) rfl) (c_X11_find_no (G := G)  hL.wf (by rw [hL.cnt]; exact hsp150_0)) rfl rfl (wk_0 hL.wf) (fitR (by decide) (by decide)) (Nat.le_of_ble_eq_true rfl) (pqK ?_)
            have hOn := isOr_n hsp150_0
            refine kc_X11_337 rfl (dtk dt_X11_forge 63 (153, .invokevirtual 337, 3) rfl) (c_X11_putAmongStacks_n (G := G)  hL.wf) rfl rfl (wk_0 hL.wf) (fitR (by decide) (by decide)) (Nat.le_of_ble_eq_true rfl) (pqK ?_)
            exact r_i (dtk dt_X11_forge 64 (156, .ireturn, 1) rfl) rfl (by have hok : fgOk w q k = true := (by (unfold fgOk; simp; omega)); rw [if_pos hok]; unfold fgR; rw [if_neg (show ¬ w = 0 by omega)]; rw [if_neg (show ¬ w = 1 by omega)]; rw [if_neg (show ¬ w = 2 by omega)]; rw [if_neg (show ¬ w = 3 by omega)]; rw [if_pos s31_4]; first | (rw [isOr_n hsp150_0]; rfl) | (rw [isOr_y hsp150_0]; simp_all [isSt]; done)) (by have hok : fgOk w q k = true := (by (unfold fgOk; simp; omega)); rw [if_pos hok]; unfold fgS; rw [if_neg (show ¬ w = 0 by omega)]; rw [if_neg (show ¬ w = 1 by omega)]; rw [if_neg (show ¬ w = 2 by omega)]; rw [if_neg (show ¬ w = 3 by omega)]; rw [if_pos s31_4]; first | (rw [isOr_n hsp150_0]; rfl) | (rw [isOr_y hsp150_0]; simp_all [isSt]; done))
          by_cases s31_5 : w = 5
          · skip
            refine x_tsIn (tgt := 157) (off := 126) (dtk dt_X11_forge 17 (31, .tableswitch 172 0 6 #[41, 62, 81, 96, 111, 126, 149], 41) rfl) (by omega) (by omega) (by rw [s31_5]; rfl) (by decide) ?_
            refine x_iload_n (dtk dt_X11_forge 65 (157, .iload_n 2, 1) rfl) rfl ?_
            refine x_if_ne (tgt := 170) (dtk dt_X11_forge 66 (158, .ifCond .ne 12, 3) rfl) (by decide) (fun c158 => ?_) (fun c158 => ?_)
            · skip
              refine x_aload_n (dtk dt_X11_forge 71 (170, .aload_n 0, 1) rfl) rfl ?_
              refine x_sipush (v := 1000) ⟨by decide, by decide⟩ (dtk dt_X11_forge 72 (171, .sipush 1000, 3) rfl) ?_
              refine x_iload_n (dtk dt_X11_forge 73 (174, .iload_n 2, 1) rfl) rfl ?_
              have hq : -100 ≤ q ∧ q ≤ 100 := by omega
              refine x_idivR (by omega) (div1000 hq) (dtk dt_X11_forge 74 (175, .idiv, 1) rfl) ?_
              refine kc_X11_111 rfl (dtk dt_X11_forge 75 (176, .invokevirtual 111, 3) rfl) (c_X11_answer (G := G)  hL.wf) rfl rfl (wk_0 hL.wf) (fitR (by decide) (by decide)) (Nat.le_of_ble_eq_true rfl) (pqK ?_)
              exact r_i (dtk dt_X11_forge 76 (179, .ireturn, 1) rfl) rfl (by have hok : fgOk w q k = true := (by (unfold fgOk; simp; omega)); rw [if_pos hok]; unfold fgR; rw [if_neg (show ¬ w = 0 by omega)]; rw [if_neg (show ¬ w = 1 by omega)]; rw [if_neg (show ¬ w = 2 by omega)]; rw [if_neg (show ¬ w = 3 by omega)]; rw [if_neg (show ¬ w = 4 by omega)]; rw [if_pos s31_5]; first | (rw [if_pos (by omega)]; done) | (rw [if_neg (by omega)])) (by have hok : fgOk w q k = true := (by (unfold fgOk; simp; omega)); rw [if_pos hok]; unfold fgS; rw [if_neg (show ¬ w = 0 by omega)]; rw [if_neg (show ¬ w = 1 by omega)]; rw [if_neg (show ¬ w = 2 by omega)]; rw [if_neg (show ¬ w = 3 by omega)]; rw [if_neg (show ¬ w = 4 by omega)]; rw [if_pos s31_5]; first | (rw [if_pos (by omega)]; done) | (rw [if_neg (by omega)]))
            · skip
              refine x_aload_n (dtk dt_X11_forge 67 (161, .aload_n 0, 1) rfl) rfl ?_
              refine x_bipush (v := 15) ⟨by decide, by decide⟩ (dtk dt_X11_forge 68 (162, .bipush 15, 2) rfl) ?_
              refine kc_X11_71 rfl (dtk dt_X11_forge 69 (164, .invokevirtual 71, 3) rfl) (c_X11_refuse (G := G)  hL.wf) rfl rfl (wk_0 hL.wf) (fitR (by decide) (by decide)) (Nat.le_of_ble_eq_true rfl) (pqK ?_)
              refine x_goto (tgt := 179) (dtk dt_X11_forge 70 (167, .goto 12, 3) rfl) (by decide) ?_
              exact r_i (dtk dt_X11_forge 76 (179, .ireturn, 1) rfl) rfl (by have hok : fgOk w q k = true := (by (unfold fgOk; simp; omega)); rw [if_pos hok]; unfold fgR; rw [if_neg (show ¬ w = 0 by omega)]; rw [if_neg (show ¬ w = 1 by omega)]; rw [if_neg (show ¬ w = 2 by omega)]; rw [if_neg (show ¬ w = 3 by omega)]; rw [if_neg (show ¬ w = 4 by omega)]; rw [if_pos s31_5]; first | (rw [if_pos (by omega)]; done) | (rw [if_neg (by omega)])) (by have hok : fgOk w q k = true := (by (unfold fgOk; simp; omega)); rw [if_pos hok]; unfold fgS; rw [if_neg (show ¬ w = 0 by omega)]; rw [if_neg (show ¬ w = 1 by omega)]; rw [if_neg (show ¬ w = 2 by omega)]; rw [if_neg (show ¬ w = 3 by omega)]; rw [if_neg (show ¬ w = 4 by omega)]; rw [if_pos s31_5]; first | (rw [if_pos (by omega)]; done) | (rw [if_neg (by omega)]))
          by_cases s31_6 : w = 6
          · skip
            refine x_tsIn (tgt := 180) (off := 149) (dtk dt_X11_forge 17 (31, .tableswitch 172 0 6 #[41, 62, 81, 96, 111, 126, 149], 41) rfl) (by omega) (by omega) (by rw [s31_6]; rfl) (by decide) ?_
            refine x_iload_n (dtk dt_X11_forge 77 (180, .iload_n 2, 1) rfl) rfl ?_
            refine x_iconst (v := 2) ⟨by decide, by decide⟩ (dtk dt_X11_forge 78 (181, .iconst 2, 1) rfl) ?_
            refine kc_X11_322 rfl (dtk dt_X11_forge 79 (182, .invokestatic 322, 3) rfl) (c_J9_floorMod_7cf53 (G := G)  (by omega) (by decide)) rfl rfl (fitR (by decide) (by decide)) (Nat.le_of_ble_eq_true rfl) (pqK ?_)
            refine x_if_ne (tgt := 197) (dtk dt_X11_forge 80 (185, .ifCond .ne 12, 3) rfl) (by decide) (fun c185 => ?_) (fun c185 => ?_)
            · skip
              refine x_aload_n (dtk dt_X11_forge 85 (197, .aload_n 0, 1) rfl) rfl ?_
              refine x_iconst (v := 1) ⟨by decide, by decide⟩ (dtk dt_X11_forge 86 (198, .iconst 1, 1) rfl) ?_
              refine kc_X11_111 rfl (dtk dt_X11_forge 87 (199, .invokevirtual 111, 3) rfl) (c_X11_answer (G := G)  hL.wf) rfl rfl (wk_0 hL.wf) (fitR (by decide) (by decide)) (Nat.le_of_ble_eq_true rfl) (pqK ?_)
              exact r_i (dtk dt_X11_forge 88 (202, .ireturn, 1) rfl) rfl (by have hok : fgOk w q k = true := (by (unfold fgOk; simp; omega)); rw [if_pos hok]; unfold fgR; rw [if_neg (show ¬ w = 0 by omega)]; rw [if_neg (show ¬ w = 1 by omega)]; rw [if_neg (show ¬ w = 2 by omega)]; rw [if_neg (show ¬ w = 3 by omega)]; rw [if_neg (show ¬ w = 4 by omega)]; rw [if_neg (show ¬ w = 5 by omega)]; first | (rw [if_pos ((odd_and (by omega)).2 (by omega))]; done) | (rw [if_neg (fun h => absurd ((odd_and (by omega)).1 h) (by omega))])) (by have hok : fgOk w q k = true := (by (unfold fgOk; simp; omega)); rw [if_pos hok]; unfold fgS; rw [if_neg (show ¬ w = 0 by omega)]; rw [if_neg (show ¬ w = 1 by omega)]; rw [if_neg (show ¬ w = 2 by omega)]; rw [if_neg (show ¬ w = 3 by omega)]; rw [if_neg (show ¬ w = 4 by omega)]; rw [if_neg (show ¬ w = 5 by omega)]; first | (rw [if_pos ((odd_and (by omega)).2 (by omega))]; done) | (rw [if_neg (fun h => absurd ((odd_and (by omega)).1 h) (by omega))]))
            · skip
              refine x_aload_n (dtk dt_X11_forge 81 (188, .aload_n 0, 1) rfl) rfl ?_
              refine x_bipush (v := 10) ⟨by decide, by decide⟩ (dtk dt_X11_forge 82 (189, .bipush 10, 2) rfl) ?_
              refine kc_X11_71 rfl (dtk dt_X11_forge 83 (191, .invokevirtual 71, 3) rfl) (c_X11_refuse (G := G)  hL.wf) rfl rfl (wk_0 hL.wf) (fitR (by decide) (by decide)) (Nat.le_of_ble_eq_true rfl) (pqK ?_)
              refine x_goto (tgt := 202) (dtk dt_X11_forge 84 (194, .goto 8, 3) rfl) (by decide) ?_
              exact r_i (dtk dt_X11_forge 88 (202, .ireturn, 1) rfl) rfl (by have hok : fgOk w q k = true := (by (unfold fgOk; simp; omega)); rw [if_pos hok]; unfold fgR; rw [if_neg (show ¬ w = 0 by omega)]; rw [if_neg (show ¬ w = 1 by omega)]; rw [if_neg (show ¬ w = 2 by omega)]; rw [if_neg (show ¬ w = 3 by omega)]; rw [if_neg (show ¬ w = 4 by omega)]; rw [if_neg (show ¬ w = 5 by omega)]; first | (rw [if_pos ((odd_and (by omega)).2 (by omega))]; done) | (rw [if_neg (fun h => absurd ((odd_and (by omega)).1 h) (by omega))])) (by have hok : fgOk w q k = true := (by (unfold fgOk; simp; omega)); rw [if_pos hok]; unfold fgS; rw [if_neg (show ¬ w = 0 by omega)]; rw [if_neg (show ¬ w = 1 by omega)]; rw [if_neg (show ¬ w = 2 by omega)]; rw [if_neg (show ¬ w = 3 by omega)]; rw [if_neg (show ¬ w = 4 by omega)]; rw [if_neg (show ¬ w = 5 by omega)]; first | (rw [if_pos ((odd_and (by omega)).2 (by omega))]; done) | (rw [if_neg (fun h => absurd ((odd_and (by omega)).1 h) (by omega))]))
          refine x_tsOut (tgt := 203) (dtk dt_X11_forge 17 (31, .tableswitch 172 0 6 #[41, 62, 81, 96, 111, 126, 149], 41) rfl) (by omega) (by decide) ?_
          refine x_aload_n (dtk dt_X11_forge 89 (203, .aload_n 0, 1) rfl) rfl ?_
          refine x_iconst (v := 1) ⟨by decide, by decide⟩ (dtk dt_X11_forge 90 (204, .iconst 1, 1) rfl) ?_
          refine kc_X11_71 rfl (dtk dt_X11_forge 91 (205, .invokevirtual 71, 3) rfl) (c_X11_refuse (G := G)  hL.wf) rfl rfl (wk_0 hL.wf) (fitR (by decide) (by decide)) (Nat.le_of_ble_eq_true rfl) (pqK ?_)
          exact r_i (dtk dt_X11_forge 92 (208, .ireturn, 1) rfl) rfl (by rw [if_neg (show ¬ fgOk w q k = true by (unfold fgOk; simp; omega))]) (by rw [if_neg (show ¬ fgOk w q k = true by (unfold fgOk; simp; omega))])
        · skip
          refine x_aload_n (dtk dt_X11_forge 12 (24, .aload_n 0, 1) rfl) rfl ?_
          refine x_iconst (v := 1) ⟨by decide, by decide⟩ (dtk dt_X11_forge 13 (25, .iconst 1, 1) rfl) ?_
          refine kc_X11_71 rfl (dtk dt_X11_forge 14 (26, .invokevirtual 71, 3) rfl) (c_X11_refuse (G := G)  hL.wf) rfl rfl (wk_0 hL.wf) (fitR (by decide) (by decide)) (Nat.le_of_ble_eq_true rfl) (pqK ?_)
          exact r_i (dtk dt_X11_forge 15 (29, .ireturn, 1) rfl) rfl (by rw [if_neg (show ¬ fgOk w q k = true by (unfold fgOk; simp; omega))]) (by rw [if_neg (show ¬ fgOk w q k = true by (unfold fgOk; simp; omega))])
