/-! ===== the class: two rows ===== -/
set_option maxRecDepth 100000 in
set_option maxHeartbeats 1000000 in
theorem c_X11_two {G : GG} {n : Nat} {K : KK} {M : MM} {o w i : Int} (hL : LK K M) : MC G mi_X11_two 18 0 0 [(1, 0), (0, o), (0, w), (0, i)] n K M (UQ sx (some (0, if isOr M o && (decide (0 ≤ w) && decide (w ≤ 1)) && (decide (0 ≤ i) && decide (i < M 38 o)) then (match grR (M 38 o) (dM M o) with | none => -1 | some z => if w = 0 then z i else secV (M 38 o) (dM M o) z i) else -1)) n K M (fun M' => RC K M')) := by
  refine MC.intro (lc := [(0, (1, 0)), (1, (0, o)), (2, (0, w)), (3, (0, i))]) (by decide) rfl (by simp [Nat.ble]) (Nat.le_of_ble_eq_true rfl) rfl (fun hMR => ?_)
  refine x_aload_n (dtk dt_X11_two 0 (0, .aload_n 0, 1) rfl) rfl ?_
  refine x_iload_n (dtk dt_X11_two 1 (1, .iload_n 1, 1) rfl) rfl ?_
  by_cases hsp2_0 : 0 ≤ o ∧ o < M 36 0
  · skip
    refine kc_X11_86 rfl (dtk dt_X11_two 2 (2, .invokevirtual 86, 3) rfl) (c_X11_find (G := G)  hL.wf (by rw [hL.cnt]; exact hsp2_0) (by rw [hL.cnt]; exact hL.c8.2)) rfl rfl (wk_0 hL.wf) (fitR (by decide) (by decide)) (Nat.le_of_ble_eq_true rfl) (pqK ?_)
    have hO := hL.ob hsp2_0
    have hOg := hO.ge
    have hOs := hO.sz
    have hOP := hL.po hsp2_0
    have hOi := isOr_y hsp2_0
    refine x_astore (dtk dt_X11_two 3 (5, .astore 4, 2) rfl) (by decide) ?_
    refine x_aload (dtk dt_X11_two 4 (7, .aload 4, 2) rfl) rfl ?_
    refine x_ifnull (tgt := 33) (dtk dt_X11_two 5 (9, .ifnull 24, 3) rfl) (by decide) (fun c9 => ?_) (fun c9 => ?_)
    · exact absurd c9 (by omega)
    refine x_iload_n (dtk dt_X11_two 6 (12, .iload_n 2, 1) rfl) rfl ?_
    refine x_if_lt (tgt := 33) (dtk dt_X11_two 7 (13, .ifCond .lt 20, 3) rfl) (by decide) (fun c13 => ?_) (fun c13 => ?_)
    · skip
      refine x_iconst (v := -1) ⟨by decide, by decide⟩ (dtk dt_X11_two 16 (33, .iconst (-1), 1) rfl) ?_
      exact ru_i (dtk dt_X11_two 17 (34, .ireturn, 1) rfl) rfl (by first | (rw [hOn]; rfl) | (rw [if_neg (by simp; omega)]; done) | (rw [hz]; split <;> rfl)) sx.rf (by first | exact hL.rc.kp (hs27_1).hi hE.1 | exact hL.rc)
    · skip
      refine x_iload_n (dtk dt_X11_two 8 (16, .iload_n 2, 1) rfl) rfl ?_
      refine x_iconst (v := 1) ⟨by decide, by decide⟩ (dtk dt_X11_two 9 (17, .iconst 1, 1) rfl) ?_
      refine x_icmp_gt (tgt := 33) (dtk dt_X11_two 10 (18, .if_icmp .gt 15, 3) rfl) (by decide) (fun c18 => ?_) (fun c18 => ?_)
      · skip
        refine x_iconst (v := -1) ⟨by decide, by decide⟩ (dtk dt_X11_two 16 (33, .iconst (-1), 1) rfl) ?_
        exact ru_i (dtk dt_X11_two 17 (34, .ireturn, 1) rfl) rfl (by first | (rw [hOn]; rfl) | (rw [if_neg (by simp; omega)]; done) | (rw [hz]; split <;> rfl)) sx.rf (by first | exact hL.rc.kp (hs27_1).hi hE.1 | exact hL.rc)
      · skip
        refine x_aload_n (dtk dt_X11_two 11 (21, .aload_n 0, 1) rfl) rfl ?_
        refine fg_X11_60 rfl (dtk dt_X11_two 12 (22, .getfield 60, 3) rfl) (wk_0 hO.wf) (wm_0_9 hO.wf) ?_
        refine x_aload (dtk dt_X11_two 13 (25, .aload 4, 2) rfl) rfl ?_
        refine kc_X11_196 rfl (dtk dt_X11_two 14 (27, .invokevirtual 196, 3) rfl) (c_X7_findTwo (G := G)  hO) rfl rfl (wk_18 hO.wf) (fitR (by decide) (by decide)) (Nat.le_of_ble_eq_true rfl) (uqK (fun M27_1 hs27_1 hE27_1 => ?_))
        have hE := hE27_1
        refine x_if_neB (tgt := 35) (dtk dt_X11_two 15 (30, .ifCond .ne 5, 3) rfl) (by decide) (fun c30 => ?_) (fun c30 => ?_)
        · skip
          obtain ⟨z, hz⟩ := Option.isSome_iff_exists.mp c30
          have hZ := hE.2 z hz
          have hw : 0 ≤ w ∧ w ≤ 1 := by omega
          refine x_iload_n (dtk dt_X11_two 18 (35, .iload_n 2, 1) rfl) rfl ?_
          refine x_if_ne (tgt := 51) (dtk dt_X11_two 19 (36, .ifCond .ne 15, 3) rfl) (by decide) (fun c36 => ?_) (fun c36 => ?_)
          · skip
            refine x_aload_n (dtk dt_X11_two 26 (51, .aload_n 0, 1) rfl) rfl ?_
            refine fg_X11_60 rfl (dtk dt_X11_two 27 (52, .getfield 60, 3) rfl) (wk_0 hO.wf) (wm_0_9 (hO.off_sx hs27_1).wf) ?_
            refine x_aload (dtk dt_X11_two 28 (55, .aload 4, 2) rfl) rfl ?_
            refine x_aload_n (dtk dt_X11_two 29 (57, .aload_n 0, 1) rfl) rfl ?_
            refine fg_X11_64 rfl (dtk dt_X11_two 30 (58, .getfield 64, 3) rfl) (wk_0 hO.wf) (wm_0_10 (hO.off_sx hs27_1).wf) ?_
            refine kc_X11_242 rfl (dtk dt_X11_two 31 (61, .invokevirtual 242, 3) rfl) (c_X7_turnFirstRow (G := G)  (hO.off_sx hs27_1) hOP (TwoOK.congr (gr_two hOP hz) hZ.2) hZ.1) rfl rfl (wk_18 hO.wf) (fitR (by decide) (by decide)) (Nat.le_of_ble_eq_true rfl) (uqK (fun M61_2 hs61_2 hE61_2 => ?_))
            have hE2 := hE61_2
            refine x_aload_n (dtk dt_X11_two 32 (64, .aload_n 0, 1) rfl) rfl ?_
            refine fg_X11_64 rfl (dtk dt_X11_two 33 (65, .getfield 64, 3) rfl) (wk_0 hO.wf) (wm_0_10 (hO.off_sx (hs27_1.tr hs61_2)).wf) ?_
            refine x_iload_n (dtk dt_X11_two 34 (68, .iload_n 3, 1) rfl) rfl ?_
            refine kc_X11_114 rfl (dtk dt_X11_two 35 (69, .invokevirtual 114, 3) rfl) (c_X3_at (G := G)  (ln_26 (hO.off_sx (hs27_1.tr hs61_2)).wf (by omega))) rfl rfl (wk_26 hO.wf) (fitR (by decide) (by decide)) (Nat.le_of_ble_eq_true rfl) (pqK ?_)
            change MW G _ _ _ _ _ _ ((0, if 0 ≤ i ∧ i < M61_2 26 1 then M61_2 27 i else -1) :: _) _ _ _
            exact ru_i (dtk dt_X11_two 36 (72, .ireturn, 1) rfl) rfl (by rw [hE2.2.1, hOi, hz]; by_cases hq : 0 ≤ i ∧ i < M 38 o; (rw [if_pos hq, if_pos (by simp; omega)]; show _ = (if w = 0 then _ else _); rw [if_neg (by omega), hE2.2.2 i hq.1 hq.2]; exact secV_congr hZ.2 i); (rw [if_neg hq, if_neg (by simp; omega)])) (hs27_1.tr hs61_2) ((hL.rc.kp (hs27_1).hi hE.1).kp (hs61_2).hi hE2.1)
          · skip
            refine x_aload_n (dtk dt_X11_two 20 (39, .aload_n 0, 1) rfl) rfl ?_
            refine fg_X11_60 rfl (dtk dt_X11_two 21 (40, .getfield 60, 3) rfl) (wk_0 hO.wf) (wm_0_9 (hO.off_sx hs27_1).wf) ?_
            refine fg_X11_239 rfl (dtk dt_X11_two 22 (43, .getfield 239, 3) rfl) (wk_18 hO.wf) (wm_18_0 (hO.off_sx hs27_1).wf) ?_
            refine x_iload_n (dtk dt_X11_two 23 (46, .iload_n 3, 1) rfl) rfl ?_
            refine kc_X11_114 rfl (dtk dt_X11_two 24 (47, .invokevirtual 114, 3) rfl) (c_X3_at (G := G)  (ln_19 (hO.off_sx hs27_1).wf (by omega))) rfl rfl (wk_19 hO.wf) (fitR (by decide) (by decide)) (Nat.le_of_ble_eq_true rfl) (pqK ?_)
            change MW G _ _ _ _ _ _ ((0, if 0 ≤ i ∧ i < M27_1 19 1 then M27_1 20 i else -1) :: _) _ _ _
            exact ru_i (dtk dt_X11_two 25 (50, .ireturn, 1) rfl) rfl (by rw [hZ.1, hOi, hz]; by_cases hq : 0 ≤ i ∧ i < M 38 o; (rw [if_pos hq, if_pos (by simp; omega)]; show _ = (if w = 0 then _ else _); rw [if_pos (by omega)]; exact hZ.2 i hq.1 hq.2); (rw [if_neg hq, if_neg (by simp; omega)])) hs27_1 (hL.rc.kp (hs27_1).hi hE.1)
        · skip
          have hz : grR (M 38 o) (dM M o) = none := Option.isNone_iff_eq_none.mp (Option.isSome_eq_false_iff.mp c30)
          refine x_iconst (v := -1) ⟨by decide, by decide⟩ (dtk dt_X11_two 16 (33, .iconst (-1), 1) rfl) ?_
          exact ru_i (dtk dt_X11_two 17 (34, .ireturn, 1) rfl) rfl (by first | (rw [hOn]; rfl) | (rw [if_neg (by simp; omega)]; done) | (rw [hz]; split <;> rfl)) hs27_1 (by first | exact hL.rc.kp (hs27_1).hi hE.1 | exact hL.rc)
  refine kc_X11_86 rfl (dtk dt_X11_two 2 (2, .invokevirtual 86, 3) rfl) (c_X11_find_no (G := G)  hL.wf (by rw [hL.cnt]; exact hsp2_0)) rfl rfl (wk_0 hL.wf) (fitR (by decide) (by decide)) (Nat.le_of_ble_eq_true rfl) (pqK ?_)
  have hOn := isOr_n hsp2_0
  refine x_astore (dtk dt_X11_two 3 (5, .astore 4, 2) rfl) (by decide) ?_
  refine x_aload (dtk dt_X11_two 4 (7, .aload 4, 2) rfl) rfl ?_
  refine x_ifnull (tgt := 33) (dtk dt_X11_two 5 (9, .ifnull 24, 3) rfl) (by decide) (fun c9 => ?_) (fun c9 => ?_)
  rotate_left
  · exact absurd c9 (by decide)
  refine x_iconst (v := -1) ⟨by decide, by decide⟩ (dtk dt_X11_two 16 (33, .iconst (-1), 1) rfl) ?_
  exact ru_i (dtk dt_X11_two 17 (34, .ireturn, 1) rfl) rfl (by first | (rw [hOn]; rfl) | (rw [if_neg (by simp; omega)]; done) | (rw [hz]; split <;> rfl)) sx.rf (by first | exact hL.rc.kp (hs27_1).hi hE.1 | exact hL.rc)
