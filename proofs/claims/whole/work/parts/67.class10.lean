/-! ===== the class: told, the hand ===== -/
set_option maxRecDepth 100000 in
set_option maxHeartbeats 4000000 in
theorem c_X4_kind {G : GG} {n : Nat} {K : KK} {M : MM} {p : Int}  : MC G mi_X4_kind 1 0 0 [(1, p)] n K M (PQ (some (0, 0)) n K (M)) := by
  refine MC.intro (lc := [(0, (1, p))]) (by decide) rfl (by simp [Nat.ble]) (Nat.le_of_ble_eq_true rfl) rfl (fun hMR => ?_)
  refine x_iconst (v := 0) ⟨by decide, by decide⟩ (dtk dt_X4_kind 0 (0, .iconst 0, 1) rfl) ?_
  exact r_i (dtk dt_X4_kind 1 (1, .ireturn, 1) rfl) rfl rfl rfl
set_option maxRecDepth 100000 in
set_option maxHeartbeats 4000000 in
theorem c_X9_kind {G : GG} {n : Nat} {K : KK} {M : MM} {p : Int}  : MC G mi_X9_kind 1 0 0 [(1, p)] n K M (PQ (some (0, 1)) n K (M)) := by
  refine MC.intro (lc := [(0, (1, p))]) (by decide) rfl (by simp [Nat.ble]) (Nat.le_of_ble_eq_true rfl) rfl (fun hMR => ?_)
  refine x_iconst (v := 1) ⟨by decide, by decide⟩ (dtk dt_X9_kind 0 (0, .iconst 1, 1) rfl) ?_
  exact r_i (dtk dt_X9_kind 1 (1, .ireturn, 1) rfl) rfl rfl rfl
set_option maxRecDepth 100000 in
set_option maxHeartbeats 4000000 in
theorem c_X0_kind {G : GG} {n : Nat} {K : KK} {M : MM} {p : Int}  : MC G mi_X0_kind 1 0 0 [(1, p)] n K M (PQ (some (0, 2)) n K (M)) := by
  refine MC.intro (lc := [(0, (1, p))]) (by decide) rfl (by simp [Nat.ble]) (Nat.le_of_ble_eq_true rfl) rfl (fun hMR => ?_)
  refine x_iconst (v := 2) ⟨by decide, by decide⟩ (dtk dt_X0_kind 0 (0, .iconst 2, 1) rfl) ?_
  exact r_i (dtk dt_X0_kind 1 (1, .ireturn, 1) rfl) rfl rfl rfl
set_option maxRecDepth 100000 in
set_option maxHeartbeats 4000000 in
theorem c_X10_kind {G : GG} {n : Nat} {K : KK} {M : MM} {p : Int}  : MC G mi_X10_kind 1 0 0 [(1, p)] n K M (PQ (some (0, 3)) n K (M)) := by
  refine MC.intro (lc := [(0, (1, p))]) (by decide) rfl (by simp [Nat.ble]) (Nat.le_of_ble_eq_true rfl) rfl (fun hMR => ?_)
  refine x_iconst (v := 3) ⟨by decide, by decide⟩ (dtk dt_X10_kind 0 (0, .iconst 3, 1) rfl) ?_
  exact r_i (dtk dt_X10_kind 1 (1, .ireturn, 1) rfl) rfl rfl rfl
set_option maxRecDepth 100000 in
set_option maxHeartbeats 4000000 in
theorem c_X2_kind {G : GG} {n : Nat} {K : KK} {M : MM} {p : Int}  : MC G mi_X2_kind 1 0 0 [(1, p)] n K M (PQ (some (0, 4)) n K (M)) := by
  refine MC.intro (lc := [(0, (1, p))]) (by decide) rfl (by simp [Nat.ble]) (Nat.le_of_ble_eq_true rfl) rfl (fun hMR => ?_)
  refine x_iconst (v := 4) ⟨by decide, by decide⟩ (dtk dt_X2_kind 0 (0, .iconst 4, 1) rfl) ?_
  exact r_i (dtk dt_X2_kind 1 (1, .ireturn, 1) rfl) rfl rfl rfl
set_option maxRecDepth 100000 in
set_option maxHeartbeats 4000000 in
theorem c_X5_kind {G : GG} {n : Nat} {K : KK} {M : MM} {p : Int}  : MC G mi_X5_kind 1 0 0 [(1, p)] n K M (PQ (some (0, 5)) n K (M)) := by
  refine MC.intro (lc := [(0, (1, p))]) (by decide) rfl (by simp [Nat.ble]) (Nat.le_of_ble_eq_true rfl) rfl (fun hMR => ?_)
  refine x_iconst (v := 5) ⟨by decide, by decide⟩ (dtk dt_X5_kind 0 (0, .iconst 5, 1) rfl) ?_
  exact r_i (dtk dt_X5_kind 1 (1, .ireturn, 1) rfl) rfl rfl rfl
set_option maxRecDepth 100000 in
set_option maxHeartbeats 4000000 in
theorem c_X11_told {G : GG} {n : Nat} {K : KK} {M : MM} {o w : Int} (hL : LK K M) : MC G mi_X11_told 18 0 0 [(1, 0), (0, o), (0, w)] n K M (UQ sx (some (0, if isOr M o then toldC (M 37 o) (M 38 o) (dM M o) w else -1)) n K M (fun M' => RC K M')) := by
  refine MC.intro (lc := [(0, (1, 0)), (1, (0, o)), (2, (0, w))]) (by decide) rfl (by simp [Nat.ble]) (Nat.le_of_ble_eq_true rfl) rfl (fun hMR => ?_)
  refine x_aload_n (dtk dt_X11_told 0 (0, .aload_n 0, 1) rfl) rfl ?_
  refine x_iload_n (dtk dt_X11_told 1 (1, .iload_n 1, 1) rfl) rfl ?_
  by_cases hsp2_0 : 0 ≤ o ∧ o < M 36 0
  · skip
    refine kc_X11_86 rfl (dtk dt_X11_told 2 (2, .invokevirtual 86, 3) rfl) (c_X11_find (G := G)  hL.wf (by rw [hL.cnt]; exact hsp2_0) (by rw [hL.cnt]; exact hL.c8.2)) rfl rfl (wk_0 hL.wf) (fitR (by decide) (by decide)) (Nat.le_of_ble_eq_true rfl) (pqK ?_)
    have hO := hL.ob hsp2_0
    have hOg := hO.ge
    have hOs := hO.sz
    have hOP := hL.po hsp2_0
    have hOi := isOr_y hsp2_0
    have hkd := hL.kd hsp2_0
    refine x_astore_n (dtk dt_X11_told 3 (5, .astore_n 3, 1) rfl) (by decide) ?_
    refine x_aload_n (dtk dt_X11_told 4 (6, .aload_n 3, 1) rfl) rfl ?_
    refine x_ifnonnull (tgt := 12) (dtk dt_X11_told 5 (7, .ifnonnull 5, 3) rfl) (by decide) (fun c7 => ?_) (fun c7 => ?_)
    rotate_left
    · exact absurd c7 (by omega)
    refine x_iload_n (dtk dt_X11_told 8 (12, .iload_n 2, 1) rfl) rfl ?_
    by_cases s13_0 : w = 0
    · skip
      refine x_tsIn (tgt := 80) (off := 67) (dtk dt_X11_told 9 (13, .tableswitch 204 0 12 #[67, 72, 77, 82, 87, 96, 104, 109, 118, 127, 144, 173, 187], 67) rfl) (by omega) (by omega) (by rw [s13_0]; rfl) (by decide) ?_
      refine x_aload_n (dtk dt_X11_told 10 (80, .aload_n 3, 1) rfl) rfl ?_
      by_cases hsp81_0 : M 37 o = 0
      · skip
        refine kc_X11_94_X4 rfl (dtk dt_X11_told 11 (81, .invokevirtual 94, 3) rfl) (c_X4_kind (G := G) (p := M 1 o) ) rfl rfl (by rw [hO.k, hsp81_0]; rfl) (fitR (by decide) (by decide)) (Nat.le_of_ble_eq_true rfl) (pqK ?_)
        exact ru_i (dtk dt_X11_told 12 (84, .ireturn, 1) rfl) rfl (by rw [hOi]; show _ = toldC _ _ _ _; unfold toldC; rw [if_pos s13_0]; omega) sx.rf hL.rc
      by_cases hsp81_1 : M 37 o = 1
      · skip
        refine kc_X11_94_X9 rfl (dtk dt_X11_told 11 (81, .invokevirtual 94, 3) rfl) (c_X9_kind (G := G) (p := M 1 o) ) rfl rfl (by rw [hO.k, hsp81_1]; rfl) (fitR (by decide) (by decide)) (Nat.le_of_ble_eq_true rfl) (pqK ?_)
        exact ru_i (dtk dt_X11_told 12 (84, .ireturn, 1) rfl) rfl (by rw [hOi]; show _ = toldC _ _ _ _; unfold toldC; rw [if_pos s13_0]; omega) sx.rf hL.rc
      by_cases hsp81_2 : M 37 o = 2
      · skip
        refine kc_X11_94_X0 rfl (dtk dt_X11_told 11 (81, .invokevirtual 94, 3) rfl) (c_X0_kind (G := G) (p := M 1 o) ) rfl rfl (by rw [hO.k, hsp81_2]; rfl) (fitR (by decide) (by decide)) (Nat.le_of_ble_eq_true rfl) (pqK ?_)
        exact ru_i (dtk dt_X11_told 12 (84, .ireturn, 1) rfl) rfl (by rw [hOi]; show _ = toldC _ _ _ _; unfold toldC; rw [if_pos s13_0]; omega) sx.rf hL.rc
      by_cases hsp81_3 : M 37 o = 3
      · skip
        refine kc_X11_94_X10 rfl (dtk dt_X11_told 11 (81, .invokevirtual 94, 3) rfl) (c_X10_kind (G := G) (p := M 1 o) ) rfl rfl (by rw [hO.k, hsp81_3]; rfl) (fitR (by decide) (by decide)) (Nat.le_of_ble_eq_true rfl) (pqK ?_)
        exact ru_i (dtk dt_X11_told 12 (84, .ireturn, 1) rfl) rfl (by rw [hOi]; show _ = toldC _ _ _ _; unfold toldC; rw [if_pos s13_0]; omega) sx.rf hL.rc
      by_cases hsp81_4 : M 37 o = 4
      · skip
        refine kc_X11_94_X2 rfl (dtk dt_X11_told 11 (81, .invokevirtual 94, 3) rfl) (c_X2_kind (G := G) (p := M 1 o) ) rfl rfl (by rw [hO.k, hsp81_4]; rfl) (fitR (by decide) (by decide)) (Nat.le_of_ble_eq_true rfl) (pqK ?_)
        exact ru_i (dtk dt_X11_told 12 (84, .ireturn, 1) rfl) rfl (by rw [hOi]; show _ = toldC _ _ _ _; unfold toldC; rw [if_pos s13_0]; omega) sx.rf hL.rc
      refine kc_X11_94_X5 rfl (dtk dt_X11_told 11 (81, .invokevirtual 94, 3) rfl) (c_X5_kind (G := G) (p := M 1 o) ) rfl rfl (by rw [hO.k, show M 37 o = 5 by omega]; rfl) (fitR (by decide) (by decide)) (Nat.le_of_ble_eq_true rfl) (pqK ?_)
      exact ru_i (dtk dt_X11_told 12 (84, .ireturn, 1) rfl) rfl (by rw [hOi]; show _ = toldC _ _ _ _; unfold toldC; rw [if_pos s13_0]; omega) sx.rf hL.rc
    by_cases s13_1 : w = 1
    · skip
      refine x_tsIn (tgt := 85) (off := 72) (dtk dt_X11_told 9 (13, .tableswitch 204 0 12 #[67, 72, 77, 82, 87, 96, 104, 109, 118, 127, 144, 173, 187], 67) rfl) (by omega) (by omega) (by rw [s13_1]; rfl) (by decide) ?_
      refine x_aload_n (dtk dt_X11_told 13 (85, .aload_n 3, 1) rfl) rfl ?_
      refine fg_X11_117 rfl (dtk dt_X11_told 14 (86, .getfield 117, 3) rfl) hO.k hO.c hO.n ?_
      exact ru_i (dtk dt_X11_told 15 (89, .ireturn, 1) rfl) rfl (by rw [hOi]; show _ = toldC _ _ _ _; unfold toldC; rw [if_neg (show ¬ w = 0 by omega)]; rw [if_pos s13_1]) sx.rf hL.rc
    by_cases s13_2 : w = 2
    · skip
      refine x_tsIn (tgt := 90) (off := 77) (dtk dt_X11_told 9 (13, .tableswitch 204 0 12 #[67, 72, 77, 82, 87, 96, 104, 109, 118, 127, 144, 173, 187], 67) rfl) (by omega) (by omega) (by rw [s13_2]; rfl) (by decide) ?_
      refine x_aload_n (dtk dt_X11_told 16 (90, .aload_n 3, 1) rfl) rfl ?_
      refine fg_X11_168 rfl (dtk dt_X11_told 17 (91, .getfield 168, 3) rfl) hO.k hO.c hO.pc ?_
      exact ru_i (dtk dt_X11_told 18 (94, .ireturn, 1) rfl) rfl (by rw [hOi]; show _ = toldC _ _ _ _; unfold toldC; rw [if_neg (show ¬ w = 0 by omega)]; rw [if_neg (show ¬ w = 1 by omega)]; rw [if_pos s13_2]) sx.rf hL.rc
    by_cases s13_3 : w = 3
    · skip
      refine x_tsIn (tgt := 95) (off := 82) (dtk dt_X11_told 9 (13, .tableswitch 204 0 12 #[67, 72, 77, 82, 87, 96, 104, 109, 118, 127, 144, 173, 187], 67) rfl) (by omega) (by omega) (by rw [s13_3]; rfl) (by decide) ?_
      refine x_aload_n (dtk dt_X11_told 19 (95, .aload_n 3, 1) rfl) rfl ?_
      refine kc_X11_171 rfl (dtk dt_X11_told 20 (96, .invokevirtual 171, 3) rfl) (c_X4_nextCount (G := G)  hO) rfl rfl hO.k hO.c (fitR (by decide) (by decide)) (Nat.le_of_ble_eq_true rfl) (pqK ?_)
      exact ru_i (dtk dt_X11_told 21 (99, .ireturn, 1) rfl) rfl (by rw [hOi]; show _ = toldC _ _ _ _; unfold toldC; rw [if_neg (show ¬ w = 0 by omega)]; rw [if_neg (show ¬ w = 1 by omega)]; rw [if_neg (show ¬ w = 2 by omega)]; rw [if_pos s13_3]) sx.rf hL.rc
    by_cases s13_4 : w = 4
    · skip
      refine x_tsIn (tgt := 100) (off := 87) (dtk dt_X11_told 9 (13, .tableswitch 204 0 12 #[67, 72, 77, 82, 87, 96, 104, 109, 118, 127, 144, 173, 187], 67) rfl) (by omega) (by omega) (by rw [s13_4]; rfl) (by decide) ?_
      refine x_aload_n (dtk dt_X11_told 22 (100, .aload_n 0, 1) rfl) rfl ?_
      refine fg_X11_46 rfl (dtk dt_X11_told 23 (101, .getfield 46, 3) rfl) (wk_0 hO.wf) (wm_0_7 hO.wf) ?_
      refine x_aload_n (dtk dt_X11_told 24 (104, .aload_n 3, 1) rfl) rfl ?_
      refine kc_X11_140 rfl (dtk dt_X11_told 25 (105, .invokevirtual 140, 3) rfl) (c_X6_lowSetCount (G := G)  hO hL.rc) rfl rfl (wk_9 hO.wf) (fitR (by decide) (by decide)) (Nat.le_of_ble_eq_true rfl) (uqK (fun M105_1 hs105_1 hE105_1 => ?_))
      have hE := hE105_1
      exact ru_i (dtk dt_X11_told 26 (108, .ireturn, 1) rfl) rfl (by rw [hOi]; show _ = toldC _ _ _ _; unfold toldC; rw [if_neg (show ¬ w = 0 by omega)]; rw [if_neg (show ¬ w = 1 by omega)]; rw [if_neg (show ¬ w = 2 by omega)]; rw [if_neg (show ¬ w = 3 by omega)]; rw [if_pos s13_4]) hs105_1 hE
    by_cases s13_5 : w = 5
    · skip
      refine x_tsIn (tgt := 109) (off := 96) (dtk dt_X11_told 9 (13, .tableswitch 204 0 12 #[67, 72, 77, 82, 87, 96, 104, 109, 118, 127, 144, 173, 187], 67) rfl) (by omega) (by omega) (by rw [s13_5]; rfl) (by decide) ?_
      refine x_aload_n (dtk dt_X11_told 27 (109, .aload_n 3, 1) rfl) rfl ?_
      refine kc_X11_174 rfl (dtk dt_X11_told 28 (110, .invokevirtual 174, 3) rfl) (c_X4_widestBits (G := G)  hO) rfl rfl hO.k hO.c (fitR (by decide) (by decide)) (Nat.le_of_ble_eq_true rfl) (pqK ?_)
      refine kc_X11_156 rfl (dtk dt_X11_told 29 (113, .invokestatic 156, 3) rfl) (c_J6_bitCount_0f7a4 (G := G)  (wide_b hOs _ (Int.le_refl _))) rfl rfl (fitR (by decide) (by decide)) (Nat.le_of_ble_eq_true rfl) (pqK ?_)
      change MW G _ _ _ _ _ _ ((0, cnt (wide (M 38 o) (dM M o))) :: _) _ _ _
      exact ru_i (dtk dt_X11_told 30 (116, .ireturn, 1) rfl) rfl (by rw [hOi]; show _ = toldC _ _ _ _; unfold toldC; rw [if_neg (show ¬ w = 0 by omega)]; rw [if_neg (show ¬ w = 1 by omega)]; rw [if_neg (show ¬ w = 2 by omega)]; rw [if_neg (show ¬ w = 3 by omega)]; rw [if_neg (show ¬ w = 4 by omega)]; rw [if_pos s13_5]) sx.rf hL.rc
    by_cases s13_6 : w = 6
    · skip
      refine x_tsIn (tgt := 117) (off := 104) (dtk dt_X11_told 9 (13, .tableswitch 204 0 12 #[67, 72, 77, 82, 87, 96, 104, 109, 118, 127, 144, 173, 187], 67) rfl) (by omega) (by omega) (by rw [s13_6]; rfl) (by decide) ?_
      refine x_aload_n (dtk dt_X11_told 31 (117, .aload_n 3, 1) rfl) rfl ?_
      refine kc_X11_177 rfl (dtk dt_X11_told 32 (118, .invokevirtual 177, 3) rfl) (c_X4_height (G := G)  hO) rfl rfl hO.k hO.c (fitR (by decide) (by decide)) (Nat.le_of_ble_eq_true rfl) (pqK ?_)
      exact ru_i (dtk dt_X11_told 33 (121, .ireturn, 1) rfl) rfl (by rw [hOi]; show _ = toldC _ _ _ _; unfold toldC; rw [if_neg (show ¬ w = 0 by omega)]; rw [if_neg (show ¬ w = 1 by omega)]; rw [if_neg (show ¬ w = 2 by omega)]; rw [if_neg (show ¬ w = 3 by omega)]; rw [if_neg (show ¬ w = 4 by omega)]; rw [if_neg (show ¬ w = 5 by omega)]; rw [if_pos s13_6]) sx.rf hL.rc
    by_cases s13_7 : w = 7
    · skip
      refine x_tsIn (tgt := 122) (off := 109) (dtk dt_X11_told 9 (13, .tableswitch 204 0 12 #[67, 72, 77, 82, 87, 96, 104, 109, 118, 127, 144, 173, 187], 67) rfl) (by omega) (by omega) (by rw [s13_7]; rfl) (by decide) ?_
      refine x_aload_n (dtk dt_X11_told 34 (122, .aload_n 0, 1) rfl) rfl ?_
      refine fg_X11_46 rfl (dtk dt_X11_told 35 (123, .getfield 46, 3) rfl) (wk_0 hO.wf) (wm_0_7 hO.wf) ?_
      refine x_aload_n (dtk dt_X11_told 36 (126, .aload_n 3, 1) rfl) rfl ?_
      refine kc_X11_180 rfl (dtk dt_X11_told 37 (127, .invokevirtual 180, 3) rfl) (c_X6_total (G := G)  hO hL.rc) rfl rfl (wk_9 hO.wf) (fitR (by decide) (by decide)) (Nat.le_of_ble_eq_true rfl) (uqK (fun M127_1 hs127_1 hE127_1 => ?_))
      have hE := hE127_1
      exact ru_i (dtk dt_X11_told 38 (130, .ireturn, 1) rfl) rfl (by rw [hOi]; show _ = toldC _ _ _ _; unfold toldC; rw [if_neg (show ¬ w = 0 by omega)]; rw [if_neg (show ¬ w = 1 by omega)]; rw [if_neg (show ¬ w = 2 by omega)]; rw [if_neg (show ¬ w = 3 by omega)]; rw [if_neg (show ¬ w = 4 by omega)]; rw [if_neg (show ¬ w = 5 by omega)]; rw [if_neg (show ¬ w = 6 by omega)]; rw [if_pos s13_7]) hs127_1 hE.1
    by_cases s13_8 : w = 8
    · skip
      refine x_tsIn (tgt := 131) (off := 118) (dtk dt_X11_told 9 (13, .tableswitch 204 0 12 #[67, 72, 77, 82, 87, 96, 104, 109, 118, 127, 144, 173, 187], 67) rfl) (by omega) (by omega) (by rw [s13_8]; rfl) (by decide) ?_
      refine x_aload_n (dtk dt_X11_told 39 (131, .aload_n 0, 1) rfl) rfl ?_
      refine fg_X11_46 rfl (dtk dt_X11_told 40 (132, .getfield 46, 3) rfl) (wk_0 hO.wf) (wm_0_7 hO.wf) ?_
      refine x_aload_n (dtk dt_X11_told 41 (135, .aload_n 3, 1) rfl) rfl ?_
      refine kc_X11_183 rfl (dtk dt_X11_told 42 (136, .invokevirtual 183, 3) rfl) (c_X6_leastJumps (G := G)  hO hL.rc) rfl rfl (wk_9 hO.wf) (fitR (by decide) (by decide)) (Nat.le_of_ble_eq_true rfl) (uqK (fun M136_1 hs136_1 hE136_1 => ?_))
      have hE := hE136_1
      exact ru_i (dtk dt_X11_told 43 (139, .ireturn, 1) rfl) rfl (by rw [hOi]; show _ = toldC _ _ _ _; unfold toldC; rw [if_neg (show ¬ w = 0 by omega)]; rw [if_neg (show ¬ w = 1 by omega)]; rw [if_neg (show ¬ w = 2 by omega)]; rw [if_neg (show ¬ w = 3 by omega)]; rw [if_neg (show ¬ w = 4 by omega)]; rw [if_neg (show ¬ w = 5 by omega)]; rw [if_neg (show ¬ w = 6 by omega)]; rw [if_neg (show ¬ w = 7 by omega)]; rw [if_pos s13_8]) hs136_1 hE
    by_cases s13_9 : w = 9
    · skip
      refine x_tsIn (tgt := 140) (off := 127) (dtk dt_X11_told 9 (13, .tableswitch 204 0 12 #[67, 72, 77, 82, 87, 96, 104, 109, 118, 127, 144, 173, 187], 67) rfl) (by omega) (by omega) (by rw [s13_9]; rfl) (by decide) ?_
      refine x_aload_n (dtk dt_X11_told 44 (140, .aload_n 0, 1) rfl) rfl ?_
      refine fg_X11_53 rfl (dtk dt_X11_told 45 (141, .getfield 53, 3) rfl) (wk_0 hO.wf) (wm_0_8 hO.wf) ?_
      refine x_aload_n (dtk dt_X11_told 46 (144, .aload_n 3, 1) rfl) rfl ?_
      refine kc_X11_186 rfl (dtk dt_X11_told 47 (145, .invokevirtual 186, 3) rfl) (c_X1_isLattice (G := G)  hO) rfl rfl (wk_14 hO.wf) (fitR (by decide) (by decide)) (Nat.le_of_ble_eq_true rfl) (uqK (fun M145_1 hs145_1 hE145_1 => ?_))
      have hE := hE145_1
      refine x_if_eqB (tgt := 155) (dtk dt_X11_told 48 (148, .ifCond .eq 7, 3) rfl) (by decide) (fun c148 => ?_) (fun c148 => ?_)
      · skip
        refine x_iconst (v := 0) ⟨by decide, by decide⟩ (dtk dt_X11_told 51 (155, .iconst 0, 1) rfl) ?_
        exact ru_i (dtk dt_X11_told 52 (156, .ireturn, 1) rfl) rfl (by rw [hOi]; show _ = toldC _ _ _ _; unfold toldC; rw [if_neg (show ¬ w = 0 by omega)]; rw [if_neg (show ¬ w = 1 by omega)]; rw [if_neg (show ¬ w = 2 by omega)]; rw [if_neg (show ¬ w = 3 by omega)]; rw [if_neg (show ¬ w = 4 by omega)]; rw [if_neg (show ¬ w = 5 by omega)]; rw [if_neg (show ¬ w = 6 by omega)]; rw [if_neg (show ¬ w = 7 by omega)]; rw [if_neg (show ¬ w = 8 by omega)]; rw [if_pos s13_9]; first | rfl | simp_all [B]) hs145_1 (hL.rc.kp (hs145_1).hi hE.1)
      · skip
        refine x_iconst (v := 1) ⟨by decide, by decide⟩ (dtk dt_X11_told 49 (151, .iconst 1, 1) rfl) ?_
        refine x_goto (tgt := 156) (dtk dt_X11_told 50 (152, .goto 4, 3) rfl) (by decide) ?_
        exact ru_i (dtk dt_X11_told 52 (156, .ireturn, 1) rfl) rfl (by rw [hOi]; show _ = toldC _ _ _ _; unfold toldC; rw [if_neg (show ¬ w = 0 by omega)]; rw [if_neg (show ¬ w = 1 by omega)]; rw [if_neg (show ¬ w = 2 by omega)]; rw [if_neg (show ¬ w = 3 by omega)]; rw [if_neg (show ¬ w = 4 by omega)]; rw [if_neg (show ¬ w = 5 by omega)]; rw [if_neg (show ¬ w = 6 by omega)]; rw [if_neg (show ¬ w = 7 by omega)]; rw [if_neg (show ¬ w = 8 by omega)]; rw [if_pos s13_9]; first | rfl | simp_all [B]) hs145_1 (hL.rc.kp (hs145_1).hi hE.1)
    by_cases s13_10 : w = 10
    · skip
      refine x_tsIn (tgt := 157) (off := 144) (dtk dt_X11_told 9 (13, .tableswitch 204 0 12 #[67, 72, 77, 82, 87, 96, 104, 109, 118, 127, 144, 173, 187], 67) rfl) (by omega) (by omega) (by rw [s13_10]; rfl) (by decide) ?_
      refine x_aload_n (dtk dt_X11_told 53 (157, .aload_n 0, 1) rfl) rfl ?_
      refine fg_X11_53 rfl (dtk dt_X11_told 54 (158, .getfield 53, 3) rfl) (wk_0 hO.wf) (wm_0_8 hO.wf) ?_
      refine x_aload_n (dtk dt_X11_told 55 (161, .aload_n 3, 1) rfl) rfl ?_
      refine kc_X11_186 rfl (dtk dt_X11_told 56 (162, .invokevirtual 186, 3) rfl) (c_X1_isLattice (G := G)  hO) rfl rfl (wk_14 hO.wf) (fitR (by decide) (by decide)) (Nat.le_of_ble_eq_true rfl) (uqK (fun M162_1 hs162_1 hE162_1 => ?_))
      have hE := hE162_1
      refine x_if_eqB (tgt := 184) (dtk dt_X11_told 57 (165, .ifCond .eq 19, 3) rfl) (by decide) (fun c165 => ?_) (fun c165 => ?_)
      · skip
        refine x_iconst (v := 0) ⟨by decide, by decide⟩ (dtk dt_X11_told 66 (184, .iconst 0, 1) rfl) ?_
        exact ru_i (dtk dt_X11_told 67 (185, .ireturn, 1) rfl) rfl (by rw [hOi]; show _ = toldC _ _ _ _; unfold toldC; rw [if_neg (show ¬ w = 0 by omega)]; rw [if_neg (show ¬ w = 1 by omega)]; rw [if_neg (show ¬ w = 2 by omega)]; rw [if_neg (show ¬ w = 3 by omega)]; rw [if_neg (show ¬ w = 4 by omega)]; rw [if_neg (show ¬ w = 5 by omega)]; rw [if_neg (show ¬ w = 6 by omega)]; rw [if_neg (show ¬ w = 7 by omega)]; rw [if_neg (show ¬ w = 8 by omega)]; rw [if_neg (show ¬ w = 9 by omega)]; rw [if_pos s13_10]; first | rfl | simp_all [B]) hs162_1 (by first | exact hL.rc.kp (hs162_1).hi hE.1)
      · skip
        refine x_aload_n (dtk dt_X11_told 58 (168, .aload_n 0, 1) rfl) rfl ?_
        refine fg_X11_53 rfl (dtk dt_X11_told 59 (169, .getfield 53, 3) rfl) (wk_0 hO.wf) (wm_0_8 (hO.off_sx hs162_1).wf) ?_
        refine x_aload_n (dtk dt_X11_told 60 (172, .aload_n 3, 1) rfl) rfl ?_
        refine kc_X11_190 rfl (dtk dt_X11_told 61 (173, .invokevirtual 190, 3) rfl) (c_X1_firstUneven (G := G)  (hO.off_sx hs162_1) (hE.2 c165) c165) rfl rfl (wk_14 hO.wf) (fitR (by decide) (by decide)) (Nat.le_of_ble_eq_true rfl) (pqK ?_)
        refine x_iconst (v := -1) ⟨by decide, by decide⟩ (dtk dt_X11_told 62 (176, .iconst (-1), 1) rfl) ?_
        refine x_icmp_ne (tgt := 184) (dtk dt_X11_told 63 (177, .if_icmp .ne 7, 3) rfl) (by decide) (fun c177 => ?_) (fun c177 => ?_)
        · skip
          refine x_iconst (v := 0) ⟨by decide, by decide⟩ (dtk dt_X11_told 66 (184, .iconst 0, 1) rfl) ?_
          exact ru_i (dtk dt_X11_told 67 (185, .ireturn, 1) rfl) rfl (by rw [hOi]; show _ = toldC _ _ _ _; unfold toldC; rw [if_neg (show ¬ w = 0 by omega)]; rw [if_neg (show ¬ w = 1 by omega)]; rw [if_neg (show ¬ w = 2 by omega)]; rw [if_neg (show ¬ w = 3 by omega)]; rw [if_neg (show ¬ w = 4 by omega)]; rw [if_neg (show ¬ w = 5 by omega)]; rw [if_neg (show ¬ w = 6 by omega)]; rw [if_neg (show ¬ w = 7 by omega)]; rw [if_neg (show ¬ w = 8 by omega)]; rw [if_neg (show ¬ w = 9 by omega)]; rw [if_pos s13_10]; first | rfl | simp_all [B]) hs162_1 (by first | exact hL.rc.kp (hs162_1).hi hE.1)
        · skip
          refine x_iconst (v := 1) ⟨by decide, by decide⟩ (dtk dt_X11_told 64 (180, .iconst 1, 1) rfl) ?_
          refine x_goto (tgt := 185) (dtk dt_X11_told 65 (181, .goto 4, 3) rfl) (by decide) ?_
          exact ru_i (dtk dt_X11_told 67 (185, .ireturn, 1) rfl) rfl (by rw [hOi]; show _ = toldC _ _ _ _; unfold toldC; rw [if_neg (show ¬ w = 0 by omega)]; rw [if_neg (show ¬ w = 1 by omega)]; rw [if_neg (show ¬ w = 2 by omega)]; rw [if_neg (show ¬ w = 3 by omega)]; rw [if_neg (show ¬ w = 4 by omega)]; rw [if_neg (show ¬ w = 5 by omega)]; rw [if_neg (show ¬ w = 6 by omega)]; rw [if_neg (show ¬ w = 7 by omega)]; rw [if_neg (show ¬ w = 8 by omega)]; rw [if_neg (show ¬ w = 9 by omega)]; rw [if_pos s13_10]; first | rfl | simp_all [B]) hs162_1 (by first | exact hL.rc.kp (hs162_1).hi hE.1)
    by_cases s13_11 : w = 11
    · skip
      refine x_tsIn (tgt := 186) (off := 173) (dtk dt_X11_told 9 (13, .tableswitch 204 0 12 #[67, 72, 77, 82, 87, 96, 104, 109, 118, 127, 144, 173, 187], 67) rfl) (by omega) (by omega) (by rw [s13_11]; rfl) (by decide) ?_
      refine x_aload_n (dtk dt_X11_told 68 (186, .aload_n 3, 1) rfl) rfl ?_
      refine kc_X11_193 rfl (dtk dt_X11_told 69 (187, .invokevirtual 193, 3) rfl) (c_X4_firstBent (G := G)  hO) rfl rfl hO.k hO.c (fitR (by decide) (by decide)) (Nat.le_of_ble_eq_true rfl) (pqK ?_)
      refine x_iconst (v := -1) ⟨by decide, by decide⟩ (dtk dt_X11_told 70 (190, .iconst (-1), 1) rfl) ?_
      refine x_icmp_ne (tgt := 198) (dtk dt_X11_told 71 (191, .if_icmp .ne 7, 3) rfl) (by decide) (fun c191 => ?_) (fun c191 => ?_)
      · skip
        refine x_iconst (v := 0) ⟨by decide, by decide⟩ (dtk dt_X11_told 74 (198, .iconst 0, 1) rfl) ?_
        exact ru_i (dtk dt_X11_told 75 (199, .ireturn, 1) rfl) rfl (by rw [hOi]; show _ = toldC _ _ _ _; unfold toldC; rw [if_neg (show ¬ w = 0 by omega)]; rw [if_neg (show ¬ w = 1 by omega)]; rw [if_neg (show ¬ w = 2 by omega)]; rw [if_neg (show ¬ w = 3 by omega)]; rw [if_neg (show ¬ w = 4 by omega)]; rw [if_neg (show ¬ w = 5 by omega)]; rw [if_neg (show ¬ w = 6 by omega)]; rw [if_neg (show ¬ w = 7 by omega)]; rw [if_neg (show ¬ w = 8 by omega)]; rw [if_neg (show ¬ w = 9 by omega)]; rw [if_neg (show ¬ w = 10 by omega)]; rw [if_pos s13_11]; first | rfl | simp_all [B]) sx.rf hL.rc
      · skip
        refine x_iconst (v := 1) ⟨by decide, by decide⟩ (dtk dt_X11_told 72 (194, .iconst 1, 1) rfl) ?_
        refine x_goto (tgt := 199) (dtk dt_X11_told 73 (195, .goto 4, 3) rfl) (by decide) ?_
        exact ru_i (dtk dt_X11_told 75 (199, .ireturn, 1) rfl) rfl (by rw [hOi]; show _ = toldC _ _ _ _; unfold toldC; rw [if_neg (show ¬ w = 0 by omega)]; rw [if_neg (show ¬ w = 1 by omega)]; rw [if_neg (show ¬ w = 2 by omega)]; rw [if_neg (show ¬ w = 3 by omega)]; rw [if_neg (show ¬ w = 4 by omega)]; rw [if_neg (show ¬ w = 5 by omega)]; rw [if_neg (show ¬ w = 6 by omega)]; rw [if_neg (show ¬ w = 7 by omega)]; rw [if_neg (show ¬ w = 8 by omega)]; rw [if_neg (show ¬ w = 9 by omega)]; rw [if_neg (show ¬ w = 10 by omega)]; rw [if_pos s13_11]; first | rfl | simp_all [B]) sx.rf hL.rc
    by_cases s13_12 : w = 12
    · skip
      refine x_tsIn (tgt := 200) (off := 187) (dtk dt_X11_told 9 (13, .tableswitch 204 0 12 #[67, 72, 77, 82, 87, 96, 104, 109, 118, 127, 144, 173, 187], 67) rfl) (by omega) (by omega) (by rw [s13_12]; rfl) (by decide) ?_
      refine x_aload_n (dtk dt_X11_told 76 (200, .aload_n 0, 1) rfl) rfl ?_
      refine fg_X11_60 rfl (dtk dt_X11_told 77 (201, .getfield 60, 3) rfl) (wk_0 hO.wf) (wm_0_9 hO.wf) ?_
      refine x_aload_n (dtk dt_X11_told 78 (204, .aload_n 3, 1) rfl) rfl ?_
      refine kc_X11_196 rfl (dtk dt_X11_told 79 (205, .invokevirtual 196, 3) rfl) (c_X7_findTwo (G := G)  hO) rfl rfl (wk_18 hO.wf) (fitR (by decide) (by decide)) (Nat.le_of_ble_eq_true rfl) (uqK (fun M205_1 hs205_1 hE205_1 => ?_))
      have hE := hE205_1
      refine x_if_eqB (tgt := 215) (dtk dt_X11_told 80 (208, .ifCond .eq 7, 3) rfl) (by decide) (fun c208 => ?_) (fun c208 => ?_)
      · skip
        refine x_iconst (v := 0) ⟨by decide, by decide⟩ (dtk dt_X11_told 83 (215, .iconst 0, 1) rfl) ?_
        exact ru_i (dtk dt_X11_told 84 (216, .ireturn, 1) rfl) rfl (by rw [hOi]; show _ = toldC _ _ _ _; unfold toldC; rw [if_neg (show ¬ w = 0 by omega)]; rw [if_neg (show ¬ w = 1 by omega)]; rw [if_neg (show ¬ w = 2 by omega)]; rw [if_neg (show ¬ w = 3 by omega)]; rw [if_neg (show ¬ w = 4 by omega)]; rw [if_neg (show ¬ w = 5 by omega)]; rw [if_neg (show ¬ w = 6 by omega)]; rw [if_neg (show ¬ w = 7 by omega)]; rw [if_neg (show ¬ w = 8 by omega)]; rw [if_neg (show ¬ w = 9 by omega)]; rw [if_neg (show ¬ w = 10 by omega)]; rw [if_neg (show ¬ w = 11 by omega)]; rw [if_pos s13_12]; first | rfl | simp_all [B]) hs205_1 (hL.rc.kp (hs205_1).hi hE.1)
      · skip
        refine x_iconst (v := 1) ⟨by decide, by decide⟩ (dtk dt_X11_told 81 (211, .iconst 1, 1) rfl) ?_
        refine x_goto (tgt := 216) (dtk dt_X11_told 82 (212, .goto 4, 3) rfl) (by decide) ?_
        exact ru_i (dtk dt_X11_told 84 (216, .ireturn, 1) rfl) rfl (by rw [hOi]; show _ = toldC _ _ _ _; unfold toldC; rw [if_neg (show ¬ w = 0 by omega)]; rw [if_neg (show ¬ w = 1 by omega)]; rw [if_neg (show ¬ w = 2 by omega)]; rw [if_neg (show ¬ w = 3 by omega)]; rw [if_neg (show ¬ w = 4 by omega)]; rw [if_neg (show ¬ w = 5 by omega)]; rw [if_neg (show ¬ w = 6 by omega)]; rw [if_neg (show ¬ w = 7 by omega)]; rw [if_neg (show ¬ w = 8 by omega)]; rw [if_neg (show ¬ w = 9 by omega)]; rw [if_neg (show ¬ w = 10 by omega)]; rw [if_neg (show ¬ w = 11 by omega)]; rw [if_pos s13_12]; first | rfl | simp_all [B]) hs205_1 (hL.rc.kp (hs205_1).hi hE.1)
    refine x_tsOut (tgt := 217) (dtk dt_X11_told 9 (13, .tableswitch 204 0 12 #[67, 72, 77, 82, 87, 96, 104, 109, 118, 127, 144, 173, 187], 67) rfl) (by omega) (by decide) ?_
    refine x_iconst (v := -1) ⟨by decide, by decide⟩ (dtk dt_X11_told 85 (217, .iconst (-1), 1) rfl) ?_
    exact ru_i (dtk dt_X11_told 86 (218, .ireturn, 1) rfl) rfl (by rw [hOi]; show _ = toldC _ _ _ _; unfold toldC; rw [if_neg (show ¬ w = 0 by omega)]; rw [if_neg (show ¬ w = 1 by omega)]; rw [if_neg (show ¬ w = 2 by omega)]; rw [if_neg (show ¬ w = 3 by omega)]; rw [if_neg (show ¬ w = 4 by omega)]; rw [if_neg (show ¬ w = 5 by omega)]; rw [if_neg (show ¬ w = 6 by omega)]; rw [if_neg (show ¬ w = 7 by omega)]; rw [if_neg (show ¬ w = 8 by omega)]; rw [if_neg (show ¬ w = 9 by omega)]; rw [if_neg (show ¬ w = 10 by omega)]; rw [if_neg (show ¬ w = 11 by omega)]; rw [if_neg (show ¬ w = 12 by omega)]) sx.rf hL.rc
  refine kc_X11_86 rfl (dtk dt_X11_told 2 (2, .invokevirtual 86, 3) rfl) (c_X11_find_no (G := G)  hL.wf (by rw [hL.cnt]; exact hsp2_0)) rfl rfl (wk_0 hL.wf) (fitR (by decide) (by decide)) (Nat.le_of_ble_eq_true rfl) (pqK ?_)
  have hOn := isOr_n hsp2_0
  refine x_astore_n (dtk dt_X11_told 3 (5, .astore_n 3, 1) rfl) (by decide) ?_
  refine x_aload_n (dtk dt_X11_told 4 (6, .aload_n 3, 1) rfl) rfl ?_
  refine x_ifnonnull (tgt := 12) (dtk dt_X11_told 5 (7, .ifnonnull 5, 3) rfl) (by decide) (fun c7 => ?_) (fun c7 => ?_)
  · exact absurd c7 (by decide)
  refine x_iconst (v := -1) ⟨by decide, by decide⟩ (dtk dt_X11_told 6 (10, .iconst (-1), 1) rfl) ?_
  exact ru_i (dtk dt_X11_told 7 (11, .ireturn, 1) rfl) rfl (by rw [hOn]; rfl) sx.rf hL.rc
set_option maxRecDepth 100000 in
set_option maxHeartbeats 4000000 in
theorem c_X11_hand {G : GG} {n : Nat} {K : KK} {M : MM} {w : Int} (hL : LK K M) : MC G mi_X11_hand 5 0 0 [(1, 0), (0, w)] n K M (UQ sx (some (0, if (decide (0 ≤ w) && decide (w ≤ 2)) && decide (M 36 5 ≠ 0) then (if w = 2 then lkR (M 36 5) (dM M (M 36 4)) (M 40) 0 0 else if decide (0 < M 36 5) && decide (M 36 5 = (M 38 (M 36 4))) && decide (lkR (M 36 5) (dM M (M 36 4)) (M 40) 0 0 = -1) then (if w = 0 then (rkS (M 38 (M 36 4)) (dM M (M 36 4)) (M 40) (M 36 5)).1 else jmp (dM M (M 36 4)) (M 40) (M 36 5)) else -1) else -1)) n K M (fun M' => RC K M')) := by
  refine MC.intro (lc := [(0, (1, 0)), (1, (0, w))]) (by decide) rfl (by simp [Nat.ble]) (Nat.le_of_ble_eq_true rfl) rfl (fun hMR => ?_)
  have hh := hL.lh
  have hv := hh.1
  have hc8 := hL.c8
  refine x_aload_n (dtk dt_X11_hand 0 (0, .aload_n 0, 1) rfl) rfl ?_
  refine x_aload_n (dtk dt_X11_hand 1 (1, .aload_n 0, 1) rfl) rfl ?_
  refine fg_X11_31 rfl (dtk dt_X11_hand 2 (2, .getfield 31, 3) rfl) (wk_0 hL.wf) rfl ?_
  by_cases hsp5_0 : 0 < M 36 5
  · skip
    have hlf : M 0 4 = M 36 4 := by (have e := hh.2.2.2; rw [if_neg (by omega)] at e; exact e)
    have ho4 := hv.2.1 hsp5_0
    rw [hlf]
    refine kc_X11_86 rfl (dtk dt_X11_hand 3 (5, .invokevirtual 86, 3) rfl) (c_X11_find (G := G)  hL.wf (by rw [hL.cnt]; exact ho4) (by rw [hL.cnt]; exact hL.c8.2)) rfl rfl (wk_0 hL.wf) (fitR (by decide) (by decide)) (Nat.le_of_ble_eq_true rfl) (pqK ?_)
    have hO := hL.ob ho4
    have hOg := hO.ge
    have hOs := hO.sz
    have hOP := hL.po ho4
    have e45 : ∀ i, 0 ≤ i → i < M 36 5 → M 5 i = M 40 i := hh.2.2.1
    have hx5 : ∀ k, 0 ≤ k → k < M 4 1 → 0 ≤ M 5 k ∧ M 5 k < M 38 (M 36 4) := fun k k0 k1 => by (rw [hh.2.1] at k1; rw [e45 k k0 k1]; exact hv.2.2.1 k k0 k1)
    have hd5 : ∀ j k, 0 ≤ j → j < k → k < M 4 1 → M 5 j ≠ M 5 k := fun j k j0 j1 k1 => by (rw [hh.2.1] at k1; rw [e45 j j0 (by omega), e45 k (by omega) k1]; exact hv.2.2.2 j k j0 j1 k1)
    have hz4 : 0 ≤ M 4 1 ∧ M 4 1 ≤ M 38 (M 36 4) := by (rw [hh.2.1]; exact ⟨hv.1.1, hv_le hL.mo hv hsp5_0⟩)
    refine x_astore_n (dtk dt_X11_hand 4 (8, .astore_n 2, 1) rfl) (by decide) ?_
    refine x_aload_n (dtk dt_X11_hand 5 (9, .aload_n 2, 1) rfl) rfl ?_
    refine x_ifnonnull (tgt := 15) (dtk dt_X11_hand 6 (10, .ifnonnull 5, 3) rfl) (by decide) (fun c10 => ?_) (fun c10 => ?_)
    rotate_left
    · exact absurd c10 (by omega)
    refine x_iload_n (dtk dt_X11_hand 9 (15, .iload_n 1, 1) rfl) rfl ?_
    by_cases s16_0 : w = 0
    · skip
      refine x_tsIn (tgt := 44) (off := 28) (dtk dt_X11_hand 10 (16, .tableswitch 105 0 2 #[28, 60, 92], 28) rfl) (by omega) (by omega) (by rw [s16_0]; rfl) (by decide) ?_
      refine x_aload_n (dtk dt_X11_hand 11 (44, .aload_n 0, 1) rfl) rfl ?_
      refine fg_X11_46 rfl (dtk dt_X11_hand 12 (45, .getfield 46, 3) rfl) (wk_0 hO.wf) (wm_0_7 hO.wf) ?_
      refine x_aload_n (dtk dt_X11_hand 13 (48, .aload_n 2, 1) rfl) rfl ?_
      refine x_aload_n (dtk dt_X11_hand 14 (49, .aload_n 0, 1) rfl) rfl ?_
      refine fg_X11_28 rfl (dtk dt_X11_hand 15 (50, .getfield 28, 3) rfl) (wk_0 hO.wf) (wm_0_3 hO.wf) ?_
      refine kc_X11_266 rfl (dtk dt_X11_hand 16 (53, .invokevirtual 266, 3) rfl) (c_X6_isRowOut (G := G)  hO hz4 hx5 hd5) rfl rfl (wk_9 hO.wf) (fitR (by decide) (by decide)) (Nat.le_of_ble_eq_true rfl) (pqK ?_)
      have hrb : (decide (M 4 1 = (M 38 (M 36 4))) && decide (lkR (M 4 1) (dM M (M 36 4)) (M 5) 0 0 = -1)) = (decide (0 < M 36 5) && decide (M 36 5 = (M 38 (M 36 4))) && decide (lkR (M 36 5) (dM M (M 36 4)) (M 40) 0 0 = -1)) := by (rw [hh.2.1, lkR_congr e45 _ 0 0 rfl (by omega), decide_eq_true hsp5_0]; rfl)
      refine x_if_eqB (tgt := 74) (dtk dt_X11_hand 17 (56, .ifCond .eq 18, 3) rfl) (by decide) (fun c56 => ?_) (fun c56 => ?_)
      · skip
        refine x_iconst (v := -1) ⟨by decide, by decide⟩ (dtk dt_X11_hand 25 (74, .iconst (-1), 1) rfl) ?_
        exact ru_i (dtk dt_X11_hand 26 (75, .ireturn, 1) rfl) rfl (by rw [if_pos (by simp; omega), if_neg (by omega)]; first | (rw [if_neg (by rw [← hrb, c56]; decide)]; done) | (rw [if_pos (hrb.symm.trans c56), if_pos (by omega), ← rkS_congr (x := M 5) e45, ← hh.2.1, hrd.1])) sx.rf (by first | exact hE | exact hL.rc)
      · skip
        have hrb2 := hrb.symm.trans c56
        have hrd : (M 4 1 = (M 38 (M 36 4))) ∧ lkR (M 4 1) (dM M (M 36 4)) (M 5) 0 0 = -1 := by simpa using c56
        have hro : RO (M 38 (M 36 4)) (dM M (M 36 4)) (M 5) := RO.of hOs (fun i i0 i1 => hx5 i i0 (by omega)) (fun j i j0 j1 i1 => hd5 j i j0 j1 (by omega)) (by rw [← hrd.1]; exact hrd.2)
        refine x_aload_n (dtk dt_X11_hand 18 (59, .aload_n 0, 1) rfl) rfl ?_
        refine fg_X11_46 rfl (dtk dt_X11_hand 19 (60, .getfield 46, 3) rfl) (wk_0 hO.wf) (wm_0_7 hO.wf) ?_
        refine x_aload_n (dtk dt_X11_hand 20 (63, .aload_n 2, 1) rfl) rfl ?_
        refine x_aload_n (dtk dt_X11_hand 21 (64, .aload_n 0, 1) rfl) rfl ?_
        refine fg_X11_28 rfl (dtk dt_X11_hand 22 (65, .getfield 28, 3) rfl) (wk_0 hO.wf) (wm_0_3 hO.wf) ?_
        refine kc_X11_270 rfl (dtk dt_X11_hand 23 (68, .invokevirtual 270, 3) rfl) (c_X6_rankOf (G := G)  hO hL.rc hrd.1 hro) rfl rfl (wk_9 hO.wf) (fitR (by decide) (by decide)) (Nat.le_of_ble_eq_true rfl) (uqK (fun M68_1 hs68_1 hE68_1 => ?_))
        have hE := hE68_1
        refine x_goto (tgt := 75) (dtk dt_X11_hand 24 (71, .goto 4, 3) rfl) (by decide) ?_
        exact ru_i (dtk dt_X11_hand 26 (75, .ireturn, 1) rfl) rfl (by rw [if_pos (by simp; omega), if_neg (by omega)]; first | (rw [if_neg (by rw [← hrb, c56]; decide)]; done) | (rw [if_pos (hrb.symm.trans c56), if_pos (by omega), ← rkS_congr (x := M 5) e45, ← hh.2.1, hrd.1])) hs68_1 (by first | exact hE | exact hL.rc)
    by_cases s16_1 : w = 1
    · skip
      refine x_tsIn (tgt := 76) (off := 60) (dtk dt_X11_hand 10 (16, .tableswitch 105 0 2 #[28, 60, 92], 28) rfl) (by omega) (by omega) (by rw [s16_1]; rfl) (by decide) ?_
      refine x_aload_n (dtk dt_X11_hand 27 (76, .aload_n 0, 1) rfl) rfl ?_
      refine fg_X11_46 rfl (dtk dt_X11_hand 28 (77, .getfield 46, 3) rfl) (wk_0 hO.wf) (wm_0_7 hO.wf) ?_
      refine x_aload_n (dtk dt_X11_hand 29 (80, .aload_n 2, 1) rfl) rfl ?_
      refine x_aload_n (dtk dt_X11_hand 30 (81, .aload_n 0, 1) rfl) rfl ?_
      refine fg_X11_28 rfl (dtk dt_X11_hand 31 (82, .getfield 28, 3) rfl) (wk_0 hO.wf) (wm_0_3 hO.wf) ?_
      refine kc_X11_266 rfl (dtk dt_X11_hand 32 (85, .invokevirtual 266, 3) rfl) (c_X6_isRowOut (G := G)  hO hz4 hx5 hd5) rfl rfl (wk_9 hO.wf) (fitR (by decide) (by decide)) (Nat.le_of_ble_eq_true rfl) (pqK ?_)
      have hrb : (decide (M 4 1 = (M 38 (M 36 4))) && decide (lkR (M 4 1) (dM M (M 36 4)) (M 5) 0 0 = -1)) = (decide (0 < M 36 5) && decide (M 36 5 = (M 38 (M 36 4))) && decide (lkR (M 36 5) (dM M (M 36 4)) (M 40) 0 0 = -1)) := by (rw [hh.2.1, lkR_congr e45 _ 0 0 rfl (by omega), decide_eq_true hsp5_0]; rfl)
      refine x_if_eqB (tgt := 106) (dtk dt_X11_hand 33 (88, .ifCond .eq 18, 3) rfl) (by decide) (fun c88 => ?_) (fun c88 => ?_)
      · skip
        refine x_iconst (v := -1) ⟨by decide, by decide⟩ (dtk dt_X11_hand 41 (106, .iconst (-1), 1) rfl) ?_
        exact ru_i (dtk dt_X11_hand 42 (107, .ireturn, 1) rfl) rfl (by rw [if_pos (by simp; omega), if_neg (by omega)]; first | (rw [if_neg (by rw [← hrb, c88]; decide)]; done) | (rw [if_pos (hrb.symm.trans c88), if_neg (by omega), hh.2.1]; exact jmp_congr e45)) sx.rf hL.rc
      · skip
        have hrb2 := hrb.symm.trans c88
        have hrd : (M 4 1 = (M 38 (M 36 4))) ∧ lkR (M 4 1) (dM M (M 36 4)) (M 5) 0 0 = -1 := by simpa using c88
        have hro : RO (M 38 (M 36 4)) (dM M (M 36 4)) (M 5) := RO.of hOs (fun i i0 i1 => hx5 i i0 (by omega)) (fun j i j0 j1 i1 => hd5 j i j0 j1 (by omega)) (by rw [← hrd.1]; exact hrd.2)
        refine x_aload_n (dtk dt_X11_hand 34 (91, .aload_n 0, 1) rfl) rfl ?_
        refine fg_X11_46 rfl (dtk dt_X11_hand 35 (92, .getfield 46, 3) rfl) (wk_0 hO.wf) (wm_0_7 hO.wf) ?_
        refine x_aload_n (dtk dt_X11_hand 36 (95, .aload_n 2, 1) rfl) rfl ?_
        refine x_aload_n (dtk dt_X11_hand 37 (96, .aload_n 0, 1) rfl) rfl ?_
        refine fg_X11_28 rfl (dtk dt_X11_hand 38 (97, .getfield 28, 3) rfl) (wk_0 hO.wf) (wm_0_3 hO.wf) ?_
        refine kc_X11_274 rfl (dtk dt_X11_hand 39 (100, .invokevirtual 274, 3) rfl) (c_X6_jumpsOf (G := G)  hO hz4 hx5) rfl rfl (wk_9 hO.wf) (fitR (by decide) (by decide)) (Nat.le_of_ble_eq_true rfl) (pqK ?_)
        refine x_goto (tgt := 107) (dtk dt_X11_hand 40 (103, .goto 4, 3) rfl) (by decide) ?_
        exact ru_i (dtk dt_X11_hand 42 (107, .ireturn, 1) rfl) rfl (by rw [if_pos (by simp; omega), if_neg (by omega)]; first | (rw [if_neg (by rw [← hrb, c88]; decide)]; done) | (rw [if_pos (hrb.symm.trans c88), if_neg (by omega), hh.2.1]; exact jmp_congr e45)) sx.rf hL.rc
    by_cases s16_2 : w = 2
    · skip
      refine x_tsIn (tgt := 108) (off := 92) (dtk dt_X11_hand 10 (16, .tableswitch 105 0 2 #[28, 60, 92], 28) rfl) (by omega) (by omega) (by rw [s16_2]; rfl) (by decide) ?_
      refine x_aload_n (dtk dt_X11_hand 43 (108, .aload_n 0, 1) rfl) rfl ?_
      refine fg_X11_46 rfl (dtk dt_X11_hand 44 (109, .getfield 46, 3) rfl) (wk_0 hO.wf) (wm_0_7 hO.wf) ?_
      refine x_aload_n (dtk dt_X11_hand 45 (112, .aload_n 2, 1) rfl) rfl ?_
      refine x_aload_n (dtk dt_X11_hand 46 (113, .aload_n 0, 1) rfl) rfl ?_
      refine fg_X11_28 rfl (dtk dt_X11_hand 47 (114, .getfield 28, 3) rfl) (wk_0 hO.wf) (wm_0_3 hO.wf) ?_
      refine kc_X11_277 rfl (dtk dt_X11_hand 48 (117, .invokevirtual 277, 3) rfl) (c_X6_firstLack (G := G)  hO hz4 hx5 hd5) rfl rfl (wk_9 hO.wf) (fitR (by decide) (by decide)) (Nat.le_of_ble_eq_true rfl) (pqK ?_)
      exact ru_i (dtk dt_X11_hand 49 (120, .ireturn, 1) rfl) rfl (by rw [if_pos (by simp; omega), if_pos (by omega), hh.2.1]; exact lkR_congr e45 _ 0 0 rfl (by omega)) sx.rf hL.rc
    refine x_tsOut (tgt := 121) (dtk dt_X11_hand 10 (16, .tableswitch 105 0 2 #[28, 60, 92], 28) rfl) (by omega) (by decide) ?_
    refine x_iconst (v := -1) ⟨by decide, by decide⟩ (dtk dt_X11_hand 50 (121, .iconst (-1), 1) rfl) ?_
    exact ru_i (dtk dt_X11_hand 51 (122, .ireturn, 1) rfl) rfl (by rw [if_neg (by simp; intro z1 z2; omega)]) sx.rf hL.rc
  have hz0 : M 36 5 = 0 := by (have e := hv.1; omega)
  have hlf : M 0 4 = -1 := by (have e := hh.2.2.2; rw [if_pos hz0] at e; exact e)
  rw [hlf]
  refine kc_X11_86 rfl (dtk dt_X11_hand 3 (5, .invokevirtual 86, 3) rfl) (c_X11_find_no (G := G)  hL.wf (by omega)) rfl rfl (wk_0 hL.wf) (fitR (by decide) (by decide)) (Nat.le_of_ble_eq_true rfl) (pqK ?_)
  refine x_astore_n (dtk dt_X11_hand 4 (8, .astore_n 2, 1) rfl) (by decide) ?_
  refine x_aload_n (dtk dt_X11_hand 5 (9, .aload_n 2, 1) rfl) rfl ?_
  refine x_ifnonnull (tgt := 15) (dtk dt_X11_hand 6 (10, .ifnonnull 5, 3) rfl) (by decide) (fun c10 => ?_) (fun c10 => ?_)
  · exact absurd c10 (by decide)
  refine x_iconst (v := -1) ⟨by decide, by decide⟩ (dtk dt_X11_hand 7 (13, .iconst (-1), 1) rfl) ?_
  exact ru_i (dtk dt_X11_hand 8 (14, .ireturn, 1) rfl) rfl (by rw [if_neg (by simp; intro _ _; omega)]) sx.rf hL.rc
set_option maxRecDepth 100000 in
set_option maxHeartbeats 4000000 in
theorem c_X11_unlike {G : GG} {n : Nat} {K : KK} {M : MM} {rk : Int} (hL : LK K M) : MC G mi_X11_unlike 6 0 0 [(1, 0), (0, rk)] n K M (UQ sx (some (0, if (decide (0 < M 36 5) && decide (M 36 5 = (M 38 (M 36 4))) && decide (lkR (M 36 5) (dM M (M 36 4)) (M 40) 0 0 = -1)) && (decide (0 ≤ rk) && decide (rk < tl (M 38 (M 36 4)) (dM M (M 36 4)) 0)) then unC (M 38 (M 36 4)) (M 5) (fdO (M 38 (M 36 4)) (dM M (M 36 4)) rk) else -1)) n K M (fun M' => RC K M')) := by
  refine MC.intro (lc := [(0, (1, 0)), (1, (0, rk))]) (by decide) rfl (by simp [Nat.ble]) (Nat.le_of_ble_eq_true rfl) rfl (fun hMR => ?_)
  have hh := hL.lh
  have hv := hh.1
  have hc8 := hL.c8
  refine x_aload_n (dtk dt_X11_unlike 0 (0, .aload_n 0, 1) rfl) rfl ?_
  refine x_aload_n (dtk dt_X11_unlike 1 (1, .aload_n 0, 1) rfl) rfl ?_
  refine fg_X11_31 rfl (dtk dt_X11_unlike 2 (2, .getfield 31, 3) rfl) (wk_0 hL.wf) rfl ?_
  by_cases hsp5_0 : 0 < M 36 5
  · skip
    have hlf : M 0 4 = M 36 4 := by (have e := hh.2.2.2; rw [if_neg (by omega)] at e; exact e)
    have ho4 := hv.2.1 hsp5_0
    rw [hlf]
    refine kc_X11_86 rfl (dtk dt_X11_unlike 3 (5, .invokevirtual 86, 3) rfl) (c_X11_find (G := G)  hL.wf (by rw [hL.cnt]; exact ho4) (by rw [hL.cnt]; exact hL.c8.2)) rfl rfl (wk_0 hL.wf) (fitR (by decide) (by decide)) (Nat.le_of_ble_eq_true rfl) (pqK ?_)
    have hO := hL.ob ho4
    have hOg := hO.ge
    have hOs := hO.sz
    have hOP := hL.po ho4
    have e45 : ∀ i, 0 ≤ i → i < M 36 5 → M 5 i = M 40 i := hh.2.2.1
    have hx5 : ∀ k, 0 ≤ k → k < M 4 1 → 0 ≤ M 5 k ∧ M 5 k < M 38 (M 36 4) := fun k k0 k1 => by (rw [hh.2.1] at k1; rw [e45 k k0 k1]; exact hv.2.2.1 k k0 k1)
    have hd5 : ∀ j k, 0 ≤ j → j < k → k < M 4 1 → M 5 j ≠ M 5 k := fun j k j0 j1 k1 => by (rw [hh.2.1] at k1; rw [e45 j j0 (by omega), e45 k (by omega) k1]; exact hv.2.2.2 j k j0 j1 k1)
    have hz4 : 0 ≤ M 4 1 ∧ M 4 1 ≤ M 38 (M 36 4) := by (rw [hh.2.1]; exact ⟨hv.1.1, hv_le hL.mo hv hsp5_0⟩)
    refine x_astore_n (dtk dt_X11_unlike 4 (8, .astore_n 2, 1) rfl) (by decide) ?_
    refine x_aload_n (dtk dt_X11_unlike 5 (9, .aload_n 2, 1) rfl) rfl ?_
    refine x_ifnull (tgt := 40) (dtk dt_X11_unlike 6 (10, .ifnull 30, 3) rfl) (by decide) (fun c10 => ?_) (fun c10 => ?_)
    · exact absurd c10 (by omega)
    refine x_aload_n (dtk dt_X11_unlike 7 (13, .aload_n 0, 1) rfl) rfl ?_
    refine fg_X11_46 rfl (dtk dt_X11_unlike 8 (14, .getfield 46, 3) rfl) (wk_0 hO.wf) (wm_0_7 hO.wf) ?_
    refine x_aload_n (dtk dt_X11_unlike 9 (17, .aload_n 2, 1) rfl) rfl ?_
    refine x_aload_n (dtk dt_X11_unlike 10 (18, .aload_n 0, 1) rfl) rfl ?_
    refine fg_X11_28 rfl (dtk dt_X11_unlike 11 (19, .getfield 28, 3) rfl) (wk_0 hO.wf) (wm_0_3 hO.wf) ?_
    refine kc_X11_266 rfl (dtk dt_X11_unlike 12 (22, .invokevirtual 266, 3) rfl) (c_X6_isRowOut (G := G)  hO hz4 hx5 hd5) rfl rfl (wk_9 hO.wf) (fitR (by decide) (by decide)) (Nat.le_of_ble_eq_true rfl) (pqK ?_)
    have hrb : (decide (M 4 1 = (M 38 (M 36 4))) && decide (lkR (M 4 1) (dM M (M 36 4)) (M 5) 0 0 = -1)) = (decide (0 < M 36 5) && decide (M 36 5 = (M 38 (M 36 4))) && decide (lkR (M 36 5) (dM M (M 36 4)) (M 40) 0 0 = -1)) := by (rw [hh.2.1, lkR_congr e45 _ 0 0 rfl (by omega), decide_eq_true hsp5_0]; rfl)
    refine x_if_eqB (tgt := 40) (dtk dt_X11_unlike 13 (25, .ifCond .eq 15, 3) rfl) (by decide) (fun c25 => ?_) (fun c25 => ?_)
    · skip
      refine x_iconst (v := -1) ⟨by decide, by decide⟩ (dtk dt_X11_unlike 20 (40, .iconst (-1), 1) rfl) ?_
      exact ru_i (dtk dt_X11_unlike 21 (41, .ireturn, 1) rfl) rfl (by first | (rw [decide_eq_false (show ¬ 0 < M 36 5 by omega)]; rfl) | (rw [← hrb, c25]; rfl) | (rw [c37, Bool.and_false]; rfl)) sx.rf (by first | exact hE | exact hL.rc)
    · skip
      have hrb2 := hrb.symm.trans c25
      have hrd : (M 4 1 = (M 38 (M 36 4))) ∧ lkR (M 4 1) (dM M (M 36 4)) (M 5) 0 0 = -1 := by simpa using c25
      have hro : RO (M 38 (M 36 4)) (dM M (M 36 4)) (M 5) := RO.of hOs (fun i i0 i1 => hx5 i i0 (by omega)) (fun j i j0 j1 i1 => hd5 j i j0 j1 (by omega)) (by rw [← hrd.1]; exact hrd.2)
      refine x_aload_n (dtk dt_X11_unlike 14 (28, .aload_n 0, 1) rfl) rfl ?_
      refine fg_X11_46 rfl (dtk dt_X11_unlike 15 (29, .getfield 46, 3) rfl) (wk_0 hO.wf) (wm_0_7 hO.wf) ?_
      refine x_aload_n (dtk dt_X11_unlike 16 (32, .aload_n 2, 1) rfl) rfl ?_
      refine x_iload_n (dtk dt_X11_unlike 17 (33, .iload_n 1, 1) rfl) rfl ?_
      refine kc_X11_218 rfl (dtk dt_X11_unlike 18 (34, .invokevirtual 218, 3) rfl) (c_X6_hasRank (G := G)  hO hL.rc) rfl rfl (wk_9 hO.wf) (fitR (by decide) (by decide)) (Nat.le_of_ble_eq_true rfl) (uqK (fun M34_1 hs34_1 hE34_1 => ?_))
      have hE := hE34_1
      refine x_if_neB (tgt := 42) (dtk dt_X11_unlike 19 (37, .ifCond .ne 5, 3) rfl) (by decide) (fun c37 => ?_) (fun c37 => ?_)
      · skip
        have hrk : 0 ≤ rk ∧ rk < tl (M 38 (M 36 4)) (dM M (M 36 4)) 0 := by simpa using c37
        refine x_aload_n (dtk dt_X11_unlike 22 (42, .aload_n 0, 1) rfl) rfl ?_
        refine fg_X11_46 rfl (dtk dt_X11_unlike 23 (43, .getfield 46, 3) rfl) (wk_0 hO.wf) (wm_0_7 (hO.off_sx hs34_1).wf) ?_
        refine x_aload_n (dtk dt_X11_unlike 24 (46, .aload_n 2, 1) rfl) rfl ?_
        refine x_iload_n (dtk dt_X11_unlike 25 (47, .iload_n 1, 1) rfl) rfl ?_
        refine x_aload_n (dtk dt_X11_unlike 26 (48, .aload_n 0, 1) rfl) rfl ?_
        refine fg_X11_64 rfl (dtk dt_X11_unlike 27 (49, .getfield 64, 3) rfl) (wk_0 hO.wf) (wm_0_10 (hO.off_sx hs34_1).wf) ?_
        refine kc_X11_222 rfl (dtk dt_X11_unlike 28 (52, .invokevirtual 222, 3) rfl) (c_X6_tellRow (G := G)  (hO.off_sx hs34_1) hE hrk) rfl rfl (wk_9 hO.wf) (fitR (by decide) (by decide)) (Nat.le_of_ble_eq_true rfl) (uqK (fun M52_2 hs52_2 hE52_2 => ?_))
        have hE2 := hE52_2
        have hs0 : sx M M52_2 := (hs34_1).tr hs52_2
        have e4 : M52_2 4 = M 4 := hs0.1 4 (by omega)
        have e5 : M52_2 5 = M 5 := hs0.1 5 (by omega)
        refine x_iconst (v := 0) ⟨by decide, by decide⟩ (dtk dt_X11_unlike 29 (55, .iconst 0, 1) rfl) ?_
        refine x_istore_n (dtk dt_X11_unlike 30 (56, .istore_n 3, 1) rfl) (by decide) ?_
        refine x_iconst (v := 0) ⟨by decide, by decide⟩ (dtk dt_X11_unlike 31 (57, .iconst 0, 1) rfl) ?_
        refine x_istore (dtk dt_X11_unlike 32 (58, .istore 4, 2) rfl) (by decide) ?_
        have L60 : ∀ (fu : Nat) (v3 : Int) (v4 : Int), (0 ≤ v4 ∧ v4 ≤ (M 38 (M 36 4))) → (v3 = sumZ v4 (fun i => sumZ (M 38 (M 36 4)) (fun j => B (decide (i < j) && decide (plc (M 38 (M 36 4)) (fdO (M 38 (M 36 4)) (dM M (M 36 4)) rk) (M 5 j) < plc (M 38 (M 36 4)) (fdO (M 38 (M 36 4)) (dM M (M 36 4)) rk) (M 5 i)))))) → ((M 38 (M 36 4)) - v4).toNat = fu → MW G mi_X11_unlike (rmd 6 0 0) (MZ G (UQ sx (some (0, if (decide (0 < M 36 5) && decide (M 36 5 = (M 38 (M 36 4))) && decide (lkR (M 36 5) (dM M (M 36 4)) (M 40) 0 0 = -1)) && (decide (0 ≤ rk) && decide (rk < tl (M 38 (M 36 4)) (dM M (M 36 4)) 0)) then unC (M 38 (M 36 4)) (M 5) (fdO (M 38 (M 36 4)) (dM M (M 36 4)) rk) else -1)) n K M (fun M' => RC K M')) 0 0) (0, 0) 60 [(0, (1, 0)), (1, (0, rk)), (2, (1, M 1 (M 36 4))), (3, (0, v3)), (4, (0, v4))] [] n K (M52_2) := by
          intro fu
          induction fu using Nat.strongRecOn with
          | ind fu ih60 =>
            intro v3 v4 h1 h2 hk60
            have hb := sumZ_b (n := v4) (L := 10) (f := fun i => sumZ (M 38 (M 36 4)) (fun j => B (decide (i < j) && decide (plc (M 38 (M 36 4)) (fdO (M 38 (M 36 4)) (dM M (M 36 4)) rk) (M 5 j) < plc (M 38 (M 36 4)) (fdO (M 38 (M 36 4)) (dM M (M 36 4)) rk) (M 5 i))))) h1.1 (fun c c0 c1 => by have z := sumZ_b01 (n := (M 38 (M 36 4))) (by omega) (fun j => decide (c < j) && decide (plc (M 38 (M 36 4)) (fdO (M 38 (M 36 4)) (dM M (M 36 4)) rk) (M 5 j) < plc (M 38 (M 36 4)) (fdO (M 38 (M 36 4)) (dM M (M 36 4)) rk) (M 5 c))); show 0 ≤ sumZ _ _ ∧ sumZ _ _ ≤ 10; omega)
            rw [← h2] at hb
            refine x_iload (dtk dt_X11_unlike 33 (60, .iload 4, 2) rfl) rfl ?_
            refine x_aload_n (dtk dt_X11_unlike 34 (62, .aload_n 0, 1) rfl) rfl ?_
            refine fg_X11_28 rfl (dtk dt_X11_unlike 35 (63, .getfield 28, 3) rfl) (wk_0 hO.wf) (wm_0_3 (hO.off_sx (hs34_1.tr hs52_2)).wf) ?_
            refine fg_X11_199 rfl (dtk dt_X11_unlike 36 (66, .getfield 199, 3) rfl) (wk_4 hO.wf) (v := (M 38 (M 36 4))) (by rw [e4]; exact hrd.1) ?_
            refine x_icmp_ge (tgt := 140) (dtk dt_X11_unlike 37 (69, .if_icmp .ge 71, 3) rfl) (by decide) (fun c69 => ?_) (fun c69 => ?_)
            · skip
              refine x_iload_n (dtk dt_X11_unlike 67 (140, .iload_n 3, 1) rfl) rfl ?_
              exact ru_i (dtk dt_X11_unlike 68 (141, .ireturn, 1) rfl) rfl (by rw [if_pos (by rw [hrb2, c37]; rfl), h2, show v4 = (M 38 (M 36 4)) by omega]; rfl) (hs34_1.tr hs52_2) hE2.1
            · skip
              have k4 := hx5 v4 h1.1 (by omega)
              refine x_iload (dtk dt_X11_unlike 38 (72, .iload 4, 2) rfl) rfl ?_
              refine x_iconst (v := 1) ⟨by decide, by decide⟩ (dtk dt_X11_unlike 39 (74, .iconst 1, 1) rfl) ?_
              refine y_iadd (dtk dt_X11_unlike 40 (75, .iadd, 1) rfl) ⟨by omega, by omega⟩ ?_
              refine x_istore (dtk dt_X11_unlike 41 (76, .istore 5, 2) rfl) (by decide) ?_
              have L78 : ∀ (fu : Nat) (w3 : Int) (v5 : Int), (v4 < v5 ∧ v5 ≤ (M 38 (M 36 4))) → (w3 = v3 + sumZ v5 (fun j => B (decide (v4 < j) && decide (plc (M 38 (M 36 4)) (fdO (M 38 (M 36 4)) (dM M (M 36 4)) rk) (M 5 j) < plc (M 38 (M 36 4)) (fdO (M 38 (M 36 4)) (dM M (M 36 4)) rk) (M 5 v4))))) → ((M 38 (M 36 4)) - v5).toNat = fu → MW G mi_X11_unlike (rmd 6 0 0) (MZ G (UQ sx (some (0, if (decide (0 < M 36 5) && decide (M 36 5 = (M 38 (M 36 4))) && decide (lkR (M 36 5) (dM M (M 36 4)) (M 40) 0 0 = -1)) && (decide (0 ≤ rk) && decide (rk < tl (M 38 (M 36 4)) (dM M (M 36 4)) 0)) then unC (M 38 (M 36 4)) (M 5) (fdO (M 38 (M 36 4)) (dM M (M 36 4)) rk) else -1)) n K M (fun M' => RC K M')) 0 0) (0, 0) 78 [(0, (1, 0)), (1, (0, rk)), (2, (1, M 1 (M 36 4))), (3, (0, w3)), (4, (0, v4)), (5, (0, v5))] [] n K (M52_2) := by
                intro fu
                induction fu using Nat.strongRecOn with
                | ind fu ih78 =>
                  intro w3 v5 h3 h4 hk78
                  have hb2 := sumZ_b01 (n := v5) (by omega) (fun j => decide (v4 < j) && decide (plc (M 38 (M 36 4)) (fdO (M 38 (M 36 4)) (dM M (M 36 4)) rk) (M 5 j) < plc (M 38 (M 36 4)) (fdO (M 38 (M 36 4)) (dM M (M 36 4)) rk) (M 5 v4)))
                  refine x_iload (dtk dt_X11_unlike 42 (78, .iload 5, 2) rfl) rfl ?_
                  refine x_aload_n (dtk dt_X11_unlike 43 (80, .aload_n 0, 1) rfl) rfl ?_
                  refine fg_X11_28 rfl (dtk dt_X11_unlike 44 (81, .getfield 28, 3) rfl) (wk_0 hO.wf) (wm_0_3 (hO.off_sx (hs34_1.tr hs52_2)).wf) ?_
                  refine fg_X11_199 rfl (dtk dt_X11_unlike 45 (84, .getfield 199, 3) rfl) (wk_4 hO.wf) (v := (M 38 (M 36 4))) (by rw [e4]; exact hrd.1) ?_
                  refine x_icmp_ge (tgt := 134) (dtk dt_X11_unlike 46 (87, .if_icmp .ge 47, 3) rfl) (by decide) (fun c87 => ?_) (fun c87 => ?_)
                  · skip
                    refine y_iinc (dtk dt_X11_unlike 65 (134, .iinc 4 1, 3) rfl) rfl (by decide) ⟨by omega, by omega⟩ ?_
                    refine x_goto (tgt := 60) (dtk dt_X11_unlike 66 (137, .goto (-77), 3) rfl) (by decide) ?_
                    refine MW.sub [1, 2, 3, 4, 0] rfl ?_
                    exact ih60 _ (by omega) _ _ (by omega) (by rw [sumZ_s h1.1, ← h2, h4, show v5 = (M 38 (M 36 4)) by omega]) rfl
                  · skip
                    refine x_aload_n (dtk dt_X11_unlike 47 (90, .aload_n 0, 1) rfl) rfl ?_
                    refine fg_X11_64 rfl (dtk dt_X11_unlike 48 (91, .getfield 64, 3) rfl) (wk_0 hO.wf) (wm_0_10 (hO.off_sx (hs34_1.tr hs52_2)).wf) ?_
                    refine x_aload_n (dtk dt_X11_unlike 49 (94, .aload_n 0, 1) rfl) rfl ?_
                    refine fg_X11_28 rfl (dtk dt_X11_unlike 50 (95, .getfield 28, 3) rfl) (wk_0 hO.wf) (wm_0_3 (hO.off_sx (hs34_1.tr hs52_2)).wf) ?_
                    refine x_iload (dtk dt_X11_unlike 51 (98, .iload 4, 2) rfl) rfl ?_
                    refine kc_X11_114 rfl (dtk dt_X11_unlike 52 (100, .invokevirtual 114, 3) rfl) (c_X3_at (G := G)  (ln_4 (hO.off_sx (hs34_1.tr hs52_2)).wf (by rw [e4]; omega))) rfl rfl (wk_4 hO.wf) (fitR (by decide) (by decide)) (Nat.le_of_ble_eq_true rfl) (pqK ?_)
                    change MW G _ _ _ _ _ _ ((0, if 0 ≤ v4 ∧ v4 < M52_2 4 1 then M52_2 5 v4 else -1) :: _) _ _ _
                    rw [e4, e5, if_pos (show 0 ≤ v4 ∧ v4 < M 4 1 by omega)]
                    refine kc_X11_280 rfl (dtk dt_X11_unlike 53 (103, .invokevirtual 280, 3) rfl) (c_X3_placeOf (G := G)  (ln_26 (hO.off_sx (hs34_1.tr hs52_2)).wf (by rw [hE2.2.1]; omega))) rfl rfl (wk_26 hO.wf) (fitR (by decide) (by decide)) (Nat.le_of_ble_eq_true rfl) (pqK ?_)
                    change MW G _ _ _ _ _ _ ((0, plc (M52_2 26 1) (M52_2 27) (M 5 v4)) :: _) _ _ _
                    rw [hE2.2.1, plc_e hE2.2.2]
                    refine x_aload_n (dtk dt_X11_unlike 54 (106, .aload_n 0, 1) rfl) rfl ?_
                    refine fg_X11_64 rfl (dtk dt_X11_unlike 55 (107, .getfield 64, 3) rfl) (wk_0 hO.wf) (wm_0_10 (hO.off_sx (hs34_1.tr hs52_2)).wf) ?_
                    refine x_aload_n (dtk dt_X11_unlike 56 (110, .aload_n 0, 1) rfl) rfl ?_
                    refine fg_X11_28 rfl (dtk dt_X11_unlike 57 (111, .getfield 28, 3) rfl) (wk_0 hO.wf) (wm_0_3 (hO.off_sx (hs34_1.tr hs52_2)).wf) ?_
                    refine x_iload (dtk dt_X11_unlike 58 (114, .iload 5, 2) rfl) rfl ?_
                    refine kc_X11_114 rfl (dtk dt_X11_unlike 59 (116, .invokevirtual 114, 3) rfl) (c_X3_at (G := G)  (ln_4 (hO.off_sx (hs34_1.tr hs52_2)).wf (by rw [e4]; omega))) rfl rfl (wk_4 hO.wf) (fitR (by decide) (by decide)) (Nat.le_of_ble_eq_true rfl) (pqK ?_)
                    change MW G _ _ _ _ _ _ ((0, if 0 ≤ v5 ∧ v5 < M52_2 4 1 then M52_2 5 v5 else -1) :: _) _ _ _
                    rw [e4, e5, if_pos (show 0 ≤ v5 ∧ v5 < M 4 1 by omega)]
                    refine kc_X11_280 rfl (dtk dt_X11_unlike 60 (119, .invokevirtual 280, 3) rfl) (c_X3_placeOf (G := G)  (ln_26 (hO.off_sx (hs34_1.tr hs52_2)).wf (by rw [hE2.2.1]; omega))) rfl rfl (wk_26 hO.wf) (fitR (by decide) (by decide)) (Nat.le_of_ble_eq_true rfl) (pqK ?_)
                    change MW G _ _ _ _ _ _ ((0, plc (M52_2 26 1) (M52_2 27) (M 5 v5)) :: _) _ _ _
                    rw [hE2.2.1, plc_e hE2.2.2]
                    refine x_icmp_le (tgt := 128) (dtk dt_X11_unlike 61 (122, .if_icmp .le 6, 3) rfl) (by decide) (fun c122 => ?_) (fun c122 => ?_)
                    · skip
                      refine y_iinc (dtk dt_X11_unlike 63 (128, .iinc 5 1, 3) rfl) rfl (by decide) ⟨by omega, by omega⟩ ?_
                      refine x_goto (tgt := 78) (dtk dt_X11_unlike 64 (131, .goto (-53), 3) rfl) (by decide) ?_
                      refine MW.sub [1, 2, 3, 4, 5, 0] rfl ?_
                      exact ih78 _ (by omega) _ _ (by omega) (by rw [sumZ_s (by omega), h4]; first | (rw [decide_eq_true (show v4 < v5 by omega), decide_eq_true (show plc _ _ (M 5 v5) < plc _ _ (M 5 v4) by omega)]; show _ = _ + (_ + 1); omega) | (rw [decide_eq_false (show ¬ plc _ _ (M 5 v5) < plc _ _ (M 5 v4) by omega), Bool.and_false]; show _ = _ + (_ + 0); omega)) rfl
                    · skip
                      refine y_iinc (dtk dt_X11_unlike 62 (125, .iinc 3 1, 3) rfl) rfl (by decide) ⟨by omega, by omega⟩ ?_
                      refine y_iinc (dtk dt_X11_unlike 63 (128, .iinc 5 1, 3) rfl) rfl (by decide) ⟨by omega, by omega⟩ ?_
                      refine x_goto (tgt := 78) (dtk dt_X11_unlike 64 (131, .goto (-53), 3) rfl) (by decide) ?_
                      refine MW.sub [2, 3, 4, 1, 5, 0] rfl ?_
                      exact ih78 _ (by omega) _ _ (by omega) (by rw [sumZ_s (by omega), h4]; first | (rw [decide_eq_true (show v4 < v5 by omega), decide_eq_true (show plc _ _ (M 5 v5) < plc _ _ (M 5 v4) by omega)]; show _ = _ + (_ + 1); omega) | (rw [decide_eq_false (show ¬ plc _ _ (M 5 v5) < plc _ _ (M 5 v4) by omega), Bool.and_false]; show _ = _ + (_ + 0); omega)) rfl
              refine MW.sub [1, 2, 3, 4, 5, 0] rfl ?_
              exact L78 _ _ _ (by omega) (by rw [sumF_false (fun j j0 j1 => by rw [decide_eq_false (by omega)]; rfl)]; omega) rfl
        refine MW.sub [3, 4, 2, 1, 0] rfl ?_
        exact L60 _ _ _ (by omega) rfl rfl
      · skip
        refine x_iconst (v := -1) ⟨by decide, by decide⟩ (dtk dt_X11_unlike 20 (40, .iconst (-1), 1) rfl) ?_
        exact ru_i (dtk dt_X11_unlike 21 (41, .ireturn, 1) rfl) rfl (by first | (rw [decide_eq_false (show ¬ 0 < M 36 5 by omega)]; rfl) | (rw [← hrb, c25]; rfl) | (rw [c37, Bool.and_false]; rfl)) hs34_1 (by first | exact hE | exact hL.rc)
  have hz0 : M 36 5 = 0 := by (have e := hv.1; omega)
  have hlf : M 0 4 = -1 := by (have e := hh.2.2.2; rw [if_pos hz0] at e; exact e)
  rw [hlf]
  refine kc_X11_86 rfl (dtk dt_X11_unlike 3 (5, .invokevirtual 86, 3) rfl) (c_X11_find_no (G := G)  hL.wf (by omega)) rfl rfl (wk_0 hL.wf) (fitR (by decide) (by decide)) (Nat.le_of_ble_eq_true rfl) (pqK ?_)
  refine x_astore_n (dtk dt_X11_unlike 4 (8, .astore_n 2, 1) rfl) (by decide) ?_
  refine x_aload_n (dtk dt_X11_unlike 5 (9, .aload_n 2, 1) rfl) rfl ?_
  refine x_ifnull (tgt := 40) (dtk dt_X11_unlike 6 (10, .ifnull 30, 3) rfl) (by decide) (fun c10 => ?_) (fun c10 => ?_)
  rotate_left
  · exact absurd c10 (by decide)
  refine x_iconst (v := -1) ⟨by decide, by decide⟩ (dtk dt_X11_unlike 20 (40, .iconst (-1), 1) rfl) ?_
  exact ru_i (dtk dt_X11_unlike 21 (41, .ireturn, 1) rfl) rfl (by first | (rw [decide_eq_false (show ¬ 0 < M 36 5 by omega)]; rfl) | (rw [← hrb, c25]; rfl) | (rw [c37, Bool.and_false]; rfl)) sx.rf (by first | exact hE | exact hL.rc)
