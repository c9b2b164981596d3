/-! ===== the model: forge, laying all rows ===== -/
set_option maxRecDepth 100000 in
set_option maxHeartbeats 4000000 in
theorem c_X12_forge {G : GG} {n : Nat} {K : KK} {M : MM} {w q k : Int} (hm : MO K M) (hv : SV M) (hc : ∀ i, 0 ≤ i → i < 80 → 0 ≤ M 44 i ∧ M 44 i ≤ 100) : MC G mi_X12_forge 4 0 0 [(1, 36), (0, w), (0, q), (0, k)] n K M (PQ (some (0, if fgOk w q k then fgR M w q (mdl k 8) (mdl k 4) else -1)) n K (if fgOk w q k then st2 M 36 12 (fgS M w q (mdl k 8) (mdl k 4)) else st2 M 36 12 1)) := by
  refine MC.intro (lc := [(0, (1, 36)), (1, (0, w)), (2, (0, q)), (3, (0, k))]) (by decide) rfl (by simp [Nat.ble]) (Nat.le_of_ble_eq_true rfl) rfl (fun hMR => ?_)
  refine x_iload_n (dtk dt_X12_forge 0 (0, .iload_n 1, 1) rfl) rfl ?_
  refine x_iconst (v := 0) ⟨by decide, by decide⟩ (dtk dt_X12_forge 1 (1, .iconst 0, 1) rfl) ?_
  refine x_bipush (v := 6) ⟨by decide, by decide⟩ (dtk dt_X12_forge 2 (2, .bipush 6, 2) rfl) ?_
  refine kc_X12_74 rfl (dtk dt_X12_forge 3 (4, .invokestatic 74, 3) rfl) (c_X12_in (G := G)  ) rfl rfl (fitR (by decide) (by decide)) (Nat.le_of_ble_eq_true rfl) (pqK ?_)
  refine x_if_eqB (tgt := 32) (dtk dt_X12_forge 4 (7, .ifCond .eq 25, 3) rfl) (by decide) (fun c7 => ?_) (fun c7 => ?_)
  · skip
    have hok : ¬ fgOk w q k = true := by (unfold fgOk; simp_all <;> omega)
    refine x_aload_n (dtk dt_X12_forge 15 (32, .aload_n 0, 1) rfl) rfl ?_
    refine x_iconst (v := 1) ⟨by decide, by decide⟩ (dtk dt_X12_forge 16 (33, .iconst 1, 1) rfl) ?_
    refine kc_X12_89 rfl (dtk dt_X12_forge 17 (34, .invokevirtual 89, 3) rfl) (c_X12_refused (G := G)  hm.1) rfl rfl (wk_36 hm.1) (fitR (by decide) (by decide)) (Nat.le_of_ble_eq_true rfl) (pqK ?_)
    exact r_i (dtk dt_X12_forge 18 (37, .ireturn, 1) rfl) rfl (by first | (rw [if_neg hok]; done) | (rw [if_pos hok]; unfold fgR isSt; simp_all; done) | (rw [if_pos hok]; unfold fgR isSt; simp_all <;> omega)) (by first | (rw [if_neg hok]; done) | (rw [if_pos hok]; congr 1; unfold fgS isSt; simp_all; done) | (rw [if_pos hok]; congr 1; unfold fgS isSt; simp_all <;> omega))
  · skip
    refine x_iload_n (dtk dt_X12_forge 5 (10, .iload_n 2, 1) rfl) rfl ?_
    refine x_bipush (v := -100) ⟨by decide, by decide⟩ (dtk dt_X12_forge 6 (11, .bipush (-100), 2) rfl) ?_
    refine x_bipush (v := 100) ⟨by decide, by decide⟩ (dtk dt_X12_forge 7 (13, .bipush 100, 2) rfl) ?_
    refine kc_X12_74 rfl (dtk dt_X12_forge 8 (15, .invokestatic 74, 3) rfl) (c_X12_in (G := G)  ) rfl rfl (fitR (by decide) (by decide)) (Nat.le_of_ble_eq_true rfl) (pqK ?_)
    refine x_if_eqB (tgt := 32) (dtk dt_X12_forge 9 (18, .ifCond .eq 14, 3) rfl) (by decide) (fun c18 => ?_) (fun c18 => ?_)
    · skip
      have hok : ¬ fgOk w q k = true := by (unfold fgOk; simp_all <;> omega)
      refine x_aload_n (dtk dt_X12_forge 15 (32, .aload_n 0, 1) rfl) rfl ?_
      refine x_iconst (v := 1) ⟨by decide, by decide⟩ (dtk dt_X12_forge 16 (33, .iconst 1, 1) rfl) ?_
      refine kc_X12_89 rfl (dtk dt_X12_forge 17 (34, .invokevirtual 89, 3) rfl) (c_X12_refused (G := G)  hm.1) rfl rfl (wk_36 hm.1) (fitR (by decide) (by decide)) (Nat.le_of_ble_eq_true rfl) (pqK ?_)
      exact r_i (dtk dt_X12_forge 18 (37, .ireturn, 1) rfl) rfl (by first | (rw [if_neg hok]; done) | (rw [if_pos hok]; unfold fgR isSt; simp_all; done) | (rw [if_pos hok]; unfold fgR isSt; simp_all <;> omega)) (by first | (rw [if_neg hok]; done) | (rw [if_pos hok]; congr 1; unfold fgS isSt; simp_all; done) | (rw [if_pos hok]; congr 1; unfold fgS isSt; simp_all <;> omega))
    · skip
      refine x_iload_n (dtk dt_X12_forge 10 (21, .iload_n 3, 1) rfl) rfl ?_
      refine x_bipush (v := -100) ⟨by decide, by decide⟩ (dtk dt_X12_forge 11 (22, .bipush (-100), 2) rfl) ?_
      refine x_bipush (v := 100) ⟨by decide, by decide⟩ (dtk dt_X12_forge 12 (24, .bipush 100, 2) rfl) ?_
      refine kc_X12_74 rfl (dtk dt_X12_forge 13 (26, .invokestatic 74, 3) rfl) (c_X12_in (G := G)  ) rfl rfl (fitR (by decide) (by decide)) (Nat.le_of_ble_eq_true rfl) (pqK ?_)
      refine x_if_neB (tgt := 38) (dtk dt_X12_forge 14 (29, .ifCond .ne 9, 3) rfl) (by decide) (fun c29 => ?_) (fun c29 => ?_)
      · skip
        have hok : fgOk w q k = true := by (unfold fgOk; rw [c7, c18, c29]; rfl)
        have hw : 0 ≤ w ∧ w ≤ 6 := by (simp at c7; omega)
        have hq : -100 ≤ q ∧ q ≤ 100 := by (simp at c18; omega)
        have hk : -100 ≤ k ∧ k ≤ 100 := by (simp at c29; omega)
        have ho := mdl_in (x := k) (k := 8) (by omega)
        have hs := mdl_in (x := k) (k := 4) (by omega)
        have hz := hv (mdl k 4) (by omega) (by omega)
        refine x_iload_n (dtk dt_X12_forge 19 (38, .iload_n 3, 1) rfl) rfl ?_
        refine x_bipush (v := 8) ⟨by decide, by decide⟩ (dtk dt_X12_forge 20 (39, .bipush 8, 2) rfl) ?_
        refine kc_X12_290 rfl (dtk dt_X12_forge 21 (41, .invokestatic 290, 3) rfl) (c_X12_modulo (G := G)  (by omega) (by omega)) rfl rfl (fitR (by decide) (by decide)) (Nat.le_of_ble_eq_true rfl) (pqK ?_)
        refine x_istore (dtk dt_X12_forge 22 (44, .istore 4, 2) rfl) (by decide) ?_
        refine x_iload_n (dtk dt_X12_forge 23 (46, .iload_n 3, 1) rfl) rfl ?_
        refine x_iconst (v := 4) ⟨by decide, by decide⟩ (dtk dt_X12_forge 24 (47, .iconst 4, 1) rfl) ?_
        refine kc_X12_290 rfl (dtk dt_X12_forge 25 (48, .invokestatic 290, 3) rfl) (c_X12_modulo (G := G)  (by omega) (by omega)) rfl rfl (fitR (by decide) (by decide)) (Nat.le_of_ble_eq_true rfl) (pqK ?_)
        refine x_istore (dtk dt_X12_forge 26 (51, .istore 5, 2) rfl) (by decide) ?_
        refine x_iload_n (dtk dt_X12_forge 27 (53, .iload_n 1, 1) rfl) rfl ?_
        by_cases s54_0 : w = 0
        · skip
          refine x_tsIn (tgt := 92) (off := 38) (dtk dt_X12_forge 28 (54, .tableswitch 305 0 5 #[38, 51, 70, 153, 235, 282], 38) rfl) (by omega) (by omega) (by rw [s54_0]; rfl) (by decide) ?_
          refine x_aload_n (dtk dt_X12_forge 29 (92, .aload_n 0, 1) rfl) rfl ?_
          refine x_iload (dtk dt_X12_forge 30 (93, .iload 4, 2) rfl) rfl ?_
          refine x_iload_n (dtk dt_X12_forge 31 (95, .iload_n 2, 1) rfl) rfl ?_
          refine x_bipush (v := 6) ⟨by decide, by decide⟩ (dtk dt_X12_forge 32 (96, .bipush 6, 2) rfl) ?_
          refine kc_X12_290 rfl (dtk dt_X12_forge 33 (98, .invokestatic 290, 3) rfl) (c_X12_modulo (G := G)  (by omega) (by omega)) rfl rfl (fitR (by decide) (by decide)) (Nat.le_of_ble_eq_true rfl) (pqK ?_)
          refine kc_X12_293 rfl (dtk dt_X12_forge 34 (101, .invokevirtual 293, 3) rfl) (c_X12_orderTaken (G := G)  hm) rfl rfl (wk_36 hm.1) (fitR (by decide) (by decide)) (Nat.le_of_ble_eq_true rfl) (pqK ?_)
          exact r_i (dtk dt_X12_forge 35 (104, .ireturn, 1) rfl) rfl (by rw [if_pos hok]; unfold fgR; rw [if_pos s54_0]) (by rw [if_pos hok]; unfold fgS; rw [if_pos s54_0]; split; (split <;> rfl); rfl)
        by_cases s54_1 : w = 1
        · skip
          refine x_tsIn (tgt := 105) (off := 51) (dtk dt_X12_forge 28 (54, .tableswitch 305 0 5 #[38, 51, 70, 153, 235, 282], 38) rfl) (by omega) (by omega) (by rw [s54_1]; rfl) (by decide) ?_
          refine x_iload_n (dtk dt_X12_forge 36 (105, .iload_n 2, 1) rfl) rfl ?_
          refine x_if_ge (tgt := 118) (dtk dt_X12_forge 37 (106, .ifCond .ge 12, 3) rfl) (by decide) (fun c106 => ?_) (fun c106 => ?_)
          · skip
            refine x_aload_n (dtk dt_X12_forge 42 (118, .aload_n 0, 1) rfl) rfl ?_
            refine x_iload_n (dtk dt_X12_forge 43 (119, .iload_n 2, 1) rfl) rfl ?_
            refine kc_X12_97 rfl (dtk dt_X12_forge 44 (120, .invokevirtual 97, 3) rfl) (c_X12_done (G := G)  hm.1) rfl rfl (wk_36 hm.1) (fitR (by decide) (by decide)) (Nat.le_of_ble_eq_true rfl) (pqK ?_)
            exact r_i (dtk dt_X12_forge 45 (123, .ireturn, 1) rfl) rfl (by first | (rw [if_neg hok]; done) | (rw [if_pos hok]; unfold fgR isSt; simp_all; done) | (rw [if_pos hok]; unfold fgR isSt; simp_all <;> omega)) (by first | (rw [if_neg hok]; done) | (rw [if_pos hok]; congr 1; unfold fgS isSt; simp_all; done) | (rw [if_pos hok]; congr 1; unfold fgS isSt; simp_all <;> omega))
          · skip
            refine x_aload_n (dtk dt_X12_forge 38 (109, .aload_n 0, 1) rfl) rfl ?_
            refine x_bipush (v := 13) ⟨by decide, by decide⟩ (dtk dt_X12_forge 39 (110, .bipush 13, 2) rfl) ?_
            refine kc_X12_89 rfl (dtk dt_X12_forge 40 (112, .invokevirtual 89, 3) rfl) (c_X12_refused (G := G)  hm.1) rfl rfl (wk_36 hm.1) (fitR (by decide) (by decide)) (Nat.le_of_ble_eq_true rfl) (pqK ?_)
            refine x_goto (tgt := 123) (dtk dt_X12_forge 41 (115, .goto 8, 3) rfl) (by decide) ?_
            exact r_i (dtk dt_X12_forge 45 (123, .ireturn, 1) rfl) rfl (by first | (rw [if_neg hok]; done) | (rw [if_pos hok]; unfold fgR isSt; simp_all; done) | (rw [if_pos hok]; unfold fgR isSt; simp_all <;> omega)) (by first | (rw [if_neg hok]; done) | (rw [if_pos hok]; congr 1; unfold fgS isSt; simp_all; done) | (rw [if_pos hok]; congr 1; unfold fgS isSt; simp_all <;> omega))
        by_cases s54_2 : w = 2
        · skip
          refine x_tsIn (tgt := 124) (off := 70) (dtk dt_X12_forge 28 (54, .tableswitch 305 0 5 #[38, 51, 70, 153, 235, 282], 38) rfl) (by omega) (by omega) (by rw [s54_2]; rfl) (by decide) ?_
          refine x_aload_n (dtk dt_X12_forge 46 (124, .aload_n 0, 1) rfl) rfl ?_
          refine fg_X12_29 rfl (dtk dt_X12_forge 47 (125, .getfield 29, 3) rfl) (wk_36 hm.1) (wm_36_9 hm.1) ?_
          refine x_iload (dtk dt_X12_forge 48 (128, .iload 5, 2) rfl) rfl ?_
          refine x_iald (dtk dt_X12_forge 49 (130, .iaload, 1) rfl) (wk_42 hm.1) ⟨by omega, by omega⟩ ?_
          refine x_iconst (v := -1) ⟨by decide, by decide⟩ (dtk dt_X12_forge 50 (131, .iconst (-1), 1) rfl) ?_
          refine x_icmp_ne (tgt := 144) (dtk dt_X12_forge 51 (132, .if_icmp .ne 12, 3) rfl) (by decide) (fun c132 => ?_) (fun c132 => ?_)
          · skip
            refine x_aload_n (dtk dt_X12_forge 56 (144, .aload_n 0, 1) rfl) rfl ?_
            refine fg_X12_29 rfl (dtk dt_X12_forge 57 (145, .getfield 29, 3) rfl) (wk_36 hm.1) (wm_36_9 hm.1) ?_
            refine x_iload (dtk dt_X12_forge 58 (148, .iload 5, 2) rfl) rfl ?_
            refine x_iald (dtk dt_X12_forge 59 (150, .iaload, 1) rfl) (wk_42 hm.1) ⟨by omega, by omega⟩ ?_
            refine x_iconst (v := 1) ⟨by decide, by decide⟩ (dtk dt_X12_forge 60 (151, .iconst 1, 1) rfl) ?_
            refine x_icmp_eq (tgt := 164) (dtk dt_X12_forge 61 (152, .if_icmp .eq 12, 3) rfl) (by decide) (fun c152 => ?_) (fun c152 => ?_)
            · skip
              refine x_iload_n (dtk dt_X12_forge 66 (164, .iload_n 2, 1) rfl) rfl ?_
              refine x_iconst (v := 0) ⟨by decide, by decide⟩ (dtk dt_X12_forge 67 (165, .iconst 0, 1) rfl) ?_
              refine x_aload_n (dtk dt_X12_forge 68 (166, .aload_n 0, 1) rfl) rfl ?_
              refine fg_X12_32 rfl (dtk dt_X12_forge 69 (167, .getfield 32, 3) rfl) (wk_36 hm.1) (wm_36_10 hm.1) ?_
              refine x_iload (dtk dt_X12_forge 70 (170, .iload 5, 2) rfl) rfl ?_
              refine x_iald (dtk dt_X12_forge 71 (172, .iaload, 1) rfl) (wk_43 hm.1) ⟨by omega, by omega⟩ ?_
              refine x_iconst (v := 1) ⟨by decide, by decide⟩ (dtk dt_X12_forge 72 (173, .iconst 1, 1) rfl) ?_
              refine y_isub (dtk dt_X12_forge 73 (174, .isub, 1) rfl) ⟨by omega, by omega⟩ ?_
              refine kc_X12_74 rfl (dtk dt_X12_forge 74 (175, .invokestatic 74, 3) rfl) (c_X12_in (G := G)  ) rfl rfl (fitR (by decide) (by decide)) (Nat.le_of_ble_eq_true rfl) (pqK ?_)
              refine x_if_eqB (tgt := 200) (dtk dt_X12_forge 75 (178, .ifCond .eq 22, 3) rfl) (by decide) (fun c178 => ?_) (fun c178 => ?_)
              · skip
                have hin : ¬ (0 ≤ q ∧ q < M 43 (mdl k 4)) := by (simp at c178; omega)
                refine x_aload_n (dtk dt_X12_forge 87 (200, .aload_n 0, 1) rfl) rfl ?_
                refine x_bipush (v := 12) ⟨by decide, by decide⟩ (dtk dt_X12_forge 88 (201, .bipush 12, 2) rfl) ?_
                refine kc_X12_89 rfl (dtk dt_X12_forge 89 (203, .invokevirtual 89, 3) rfl) (c_X12_refused (G := G)  hm.1) rfl rfl (wk_36 hm.1) (fitR (by decide) (by decide)) (Nat.le_of_ble_eq_true rfl) (pqK ?_)
                exact r_i (dtk dt_X12_forge 90 (206, .ireturn, 1) rfl) rfl (by first | (rw [if_neg hok]; done) | (rw [if_pos hok]; unfold fgR isSt; simp_all; done) | (rw [if_pos hok]; unfold fgR isSt; simp_all <;> omega)) (by first | (rw [if_neg hok]; done) | (rw [if_pos hok]; congr 1; unfold fgS isSt; simp_all; done) | (rw [if_pos hok]; congr 1; unfold fgS isSt; simp_all <;> omega))
              · skip
                have hin : 0 ≤ q ∧ q < M 43 (mdl k 4) := by (simp at c178; omega)
                refine x_aload_n (dtk dt_X12_forge 76 (181, .aload_n 0, 1) rfl) rfl ?_
                refine x_aload_n (dtk dt_X12_forge 77 (182, .aload_n 0, 1) rfl) rfl ?_
                refine fg_X12_35 rfl (dtk dt_X12_forge 78 (183, .getfield 35, 3) rfl) (wk_36 hm.1) (wm_36_11 hm.1) ?_
                refine x_bipush (v := 20) ⟨by decide, by decide⟩ (dtk dt_X12_forge 79 (186, .bipush 20, 2) rfl) ?_
                refine x_iload (dtk dt_X12_forge 80 (188, .iload 5, 2) rfl) rfl ?_
                refine y_imul (dtk dt_X12_forge 81 (190, .imul, 1) rfl) ⟨by omega, by omega⟩ ?_
                refine x_iload_n (dtk dt_X12_forge 82 (191, .iload_n 2, 1) rfl) rfl ?_
                refine y_iadd (dtk dt_X12_forge 83 (192, .iadd, 1) rfl) ⟨by omega, by omega⟩ ?_
                refine x_iald (dtk dt_X12_forge 84 (193, .iaload, 1) rfl) (wk_44 hm.1) ⟨by omega, by omega⟩ ?_
                refine kc_X12_97 rfl (dtk dt_X12_forge 85 (194, .invokevirtual 97, 3) rfl) (c_X12_done (G := G)  hm.1) rfl rfl (wk_36 hm.1) (fitR (by decide) (by decide)) (Nat.le_of_ble_eq_true rfl) (pqK ?_)
                refine x_goto (tgt := 206) (dtk dt_X12_forge 86 (197, .goto 9, 3) rfl) (by decide) ?_
                exact r_i (dtk dt_X12_forge 90 (206, .ireturn, 1) rfl) rfl (by first | (rw [if_neg hok]; done) | (rw [if_pos hok]; unfold fgR isSt; simp_all; done) | (rw [if_pos hok]; unfold fgR isSt; simp_all <;> omega)) (by first | (rw [if_neg hok]; done) | (rw [if_pos hok]; congr 1; unfold fgS isSt; simp_all; done) | (rw [if_pos hok]; congr 1; unfold fgS isSt; simp_all <;> omega))
            · skip
              refine x_aload_n (dtk dt_X12_forge 62 (155, .aload_n 0, 1) rfl) rfl ?_
              refine x_bipush (v := 11) ⟨by decide, by decide⟩ (dtk dt_X12_forge 63 (156, .bipush 11, 2) rfl) ?_
              refine kc_X12_89 rfl (dtk dt_X12_forge 64 (158, .invokevirtual 89, 3) rfl) (c_X12_refused (G := G)  hm.1) rfl rfl (wk_36 hm.1) (fitR (by decide) (by decide)) (Nat.le_of_ble_eq_true rfl) (pqK ?_)
              refine x_goto (tgt := 206) (dtk dt_X12_forge 65 (161, .goto 45, 3) rfl) (by decide) ?_
              exact r_i (dtk dt_X12_forge 90 (206, .ireturn, 1) rfl) rfl (by first | (rw [if_neg hok]; done) | (rw [if_pos hok]; unfold fgR isSt; simp_all; done) | (rw [if_pos hok]; unfold fgR isSt; simp_all <;> omega)) (by first | (rw [if_neg hok]; done) | (rw [if_pos hok]; congr 1; unfold fgS isSt; simp_all; done) | (rw [if_pos hok]; congr 1; unfold fgS isSt; simp_all <;> omega))
          · skip
            refine x_aload_n (dtk dt_X12_forge 52 (135, .aload_n 0, 1) rfl) rfl ?_
            refine x_bipush (v := 10) ⟨by decide, by decide⟩ (dtk dt_X12_forge 53 (136, .bipush 10, 2) rfl) ?_
            refine kc_X12_89 rfl (dtk dt_X12_forge 54 (138, .invokevirtual 89, 3) rfl) (c_X12_refused (G := G)  hm.1) rfl rfl (wk_36 hm.1) (fitR (by decide) (by decide)) (Nat.le_of_ble_eq_true rfl) (pqK ?_)
            refine x_goto (tgt := 206) (dtk dt_X12_forge 55 (141, .goto 65, 3) rfl) (by decide) ?_
            exact r_i (dtk dt_X12_forge 90 (206, .ireturn, 1) rfl) rfl (by first | (rw [if_neg hok]; done) | (rw [if_pos hok]; unfold fgR isSt; simp_all; done) | (rw [if_pos hok]; unfold fgR isSt; simp_all <;> omega)) (by first | (rw [if_neg hok]; done) | (rw [if_pos hok]; congr 1; unfold fgS isSt; simp_all; done) | (rw [if_pos hok]; congr 1; unfold fgS isSt; simp_all <;> omega))
        by_cases s54_3 : w = 3
        · skip
          refine x_tsIn (tgt := 207) (off := 153) (dtk dt_X12_forge 28 (54, .tableswitch 305 0 5 #[38, 51, 70, 153, 235, 282], 38) rfl) (by omega) (by omega) (by rw [s54_3]; rfl) (by decide) ?_
          refine x_aload_n (dtk dt_X12_forge 91 (207, .aload_n 0, 1) rfl) rfl ?_
          refine fg_X12_29 rfl (dtk dt_X12_forge 92 (208, .getfield 29, 3) rfl) (wk_36 hm.1) (wm_36_9 hm.1) ?_
          refine x_iload (dtk dt_X12_forge 93 (211, .iload 5, 2) rfl) rfl ?_
          refine x_iald (dtk dt_X12_forge 94 (213, .iaload, 1) rfl) (wk_42 hm.1) ⟨by omega, by omega⟩ ?_
          refine x_iconst (v := -1) ⟨by decide, by decide⟩ (dtk dt_X12_forge 95 (214, .iconst (-1), 1) rfl) ?_
          refine x_icmp_ne (tgt := 227) (dtk dt_X12_forge 96 (215, .if_icmp .ne 12, 3) rfl) (by decide) (fun c215 => ?_) (fun c215 => ?_)
          · skip
            refine x_aload_n (dtk dt_X12_forge 101 (227, .aload_n 0, 1) rfl) rfl ?_
            refine fg_X12_29 rfl (dtk dt_X12_forge 102 (228, .getfield 29, 3) rfl) (wk_36 hm.1) (wm_36_9 hm.1) ?_
            refine x_iload (dtk dt_X12_forge 103 (231, .iload 5, 2) rfl) rfl ?_
            refine x_iald (dtk dt_X12_forge 104 (233, .iaload, 1) rfl) (wk_42 hm.1) ⟨by omega, by omega⟩ ?_
            refine x_if_eq (tgt := 246) (dtk dt_X12_forge 105 (234, .ifCond .eq 12, 3) rfl) (by decide) (fun c234 => ?_) (fun c234 => ?_)
            · skip
              refine x_iload_n (dtk dt_X12_forge 110 (246, .iload_n 2, 1) rfl) rfl ?_
              refine x_iconst (v := 0) ⟨by decide, by decide⟩ (dtk dt_X12_forge 111 (247, .iconst 0, 1) rfl) ?_
              refine x_iconst (v := 3) ⟨by decide, by decide⟩ (dtk dt_X12_forge 112 (248, .iconst 3, 1) rfl) ?_
              refine kc_X12_74 rfl (dtk dt_X12_forge 113 (249, .invokestatic 74, 3) rfl) (c_X12_in (G := G)  ) rfl rfl (fitR (by decide) (by decide)) (Nat.le_of_ble_eq_true rfl) (pqK ?_)
              refine x_if_eqB (tgt := 282) (dtk dt_X12_forge 114 (252, .ifCond .eq 30, 3) rfl) (by decide) (fun c252 => ?_) (fun c252 => ?_)
              · skip
                have hin : ¬ (0 ≤ q ∧ q ≤ 3) := by (simp at c252; omega)
                refine x_aload_n (dtk dt_X12_forge 130 (282, .aload_n 0, 1) rfl) rfl ?_
                refine x_bipush (v := 12) ⟨by decide, by decide⟩ (dtk dt_X12_forge 131 (283, .bipush 12, 2) rfl) ?_
                refine kc_X12_89 rfl (dtk dt_X12_forge 132 (285, .invokevirtual 89, 3) rfl) (c_X12_refused (G := G)  hm.1) rfl rfl (wk_36 hm.1) (fitR (by decide) (by decide)) (Nat.le_of_ble_eq_true rfl) (pqK ?_)
                exact r_i (dtk dt_X12_forge 133 (288, .ireturn, 1) rfl) rfl (by first | (rw [if_neg hok]; done) | (rw [if_pos hok]; unfold fgR isSt; simp_all; done) | (rw [if_pos hok]; unfold fgR isSt; simp_all <;> omega)) (by first | (rw [if_neg hok]; done) | (rw [if_pos hok]; congr 1; unfold fgS isSt; simp_all; done) | (rw [if_pos hok]; congr 1; unfold fgS isSt; simp_all <;> omega))
              · skip
                have hin : 0 ≤ q ∧ q ≤ 3 := by (simp at c252; omega)
                refine x_iconst (v := 1) ⟨by decide, by decide⟩ (dtk dt_X12_forge 115 (255, .iconst 1, 1) rfl) ?_
                refine x_iload_n (dtk dt_X12_forge 116 (256, .iload_n 2, 1) rfl) rfl ?_
                refine y_iadd (dtk dt_X12_forge 117 (257, .iadd, 1) rfl) ⟨by omega, by omega⟩ ?_
                refine x_aload_n (dtk dt_X12_forge 118 (258, .aload_n 0, 1) rfl) rfl ?_
                refine fg_X12_32 rfl (dtk dt_X12_forge 119 (259, .getfield 32, 3) rfl) (wk_36 hm.1) (wm_36_10 hm.1) ?_
                refine x_iload (dtk dt_X12_forge 120 (262, .iload 5, 2) rfl) rfl ?_
                refine x_iald (dtk dt_X12_forge 121 (264, .iaload, 1) rfl) (wk_43 hm.1) ⟨by omega, by omega⟩ ?_
                refine x_icmp_gt (tgt := 282) (dtk dt_X12_forge 122 (265, .if_icmp .gt 17, 3) rfl) (by decide) (fun c265 => ?_) (fun c265 => ?_)
                · skip
                  refine x_aload_n (dtk dt_X12_forge 130 (282, .aload_n 0, 1) rfl) rfl ?_
                  refine x_bipush (v := 12) ⟨by decide, by decide⟩ (dtk dt_X12_forge 131 (283, .bipush 12, 2) rfl) ?_
                  refine kc_X12_89 rfl (dtk dt_X12_forge 132 (285, .invokevirtual 89, 3) rfl) (c_X12_refused (G := G)  hm.1) rfl rfl (wk_36 hm.1) (fitR (by decide) (by decide)) (Nat.le_of_ble_eq_true rfl) (pqK ?_)
                  exact r_i (dtk dt_X12_forge 133 (288, .ireturn, 1) rfl) rfl (by first | (rw [if_neg hok]; done) | (rw [if_pos hok]; unfold fgR isSt; simp_all; done) | (rw [if_pos hok]; unfold fgR isSt; simp_all <;> omega)) (by first | (rw [if_neg hok]; done) | (rw [if_pos hok]; congr 1; unfold fgS isSt; simp_all; done) | (rw [if_pos hok]; congr 1; unfold fgS isSt; simp_all <;> omega))
                · skip
                  refine x_aload_n (dtk dt_X12_forge 123 (268, .aload_n 0, 1) rfl) rfl ?_
                  refine x_aload_n (dtk dt_X12_forge 124 (269, .aload_n 0, 1) rfl) rfl ?_
                  refine x_iload (dtk dt_X12_forge 125 (270, .iload 5, 2) rfl) rfl ?_
                  refine x_iload_n (dtk dt_X12_forge 126 (272, .iload_n 2, 1) rfl) rfl ?_
                  refine kc_X12_296 rfl (dtk dt_X12_forge 127 (273, .invokevirtual 296, 3) rfl) (c_X12_copied (G := G)  hm.1 hc (by omega) (by omega)) rfl rfl (wk_36 hm.1) (fitR (by decide) (by decide)) (Nat.le_of_ble_eq_true rfl) (pqK ?_)
                  refine kc_X12_97 rfl (dtk dt_X12_forge 128 (276, .invokevirtual 97, 3) rfl) (c_X12_done (G := G)  hm.1) rfl rfl (wk_36 hm.1) (fitR (by decide) (by decide)) (Nat.le_of_ble_eq_true rfl) (pqK ?_)
                  refine x_goto (tgt := 288) (dtk dt_X12_forge 129 (279, .goto 9, 3) rfl) (by decide) ?_
                  exact r_i (dtk dt_X12_forge 133 (288, .ireturn, 1) rfl) rfl (by first | (rw [if_neg hok]; done) | (rw [if_pos hok]; unfold fgR isSt; simp_all; done) | (rw [if_pos hok]; unfold fgR isSt; simp_all <;> omega)) (by first | (rw [if_neg hok]; done) | (rw [if_pos hok]; congr 1; unfold fgS isSt; simp_all; done) | (rw [if_pos hok]; congr 1; unfold fgS isSt; simp_all <;> omega))
            · skip
              refine x_aload_n (dtk dt_X12_forge 106 (237, .aload_n 0, 1) rfl) rfl ?_
              refine x_bipush (v := 11) ⟨by decide, by decide⟩ (dtk dt_X12_forge 107 (238, .bipush 11, 2) rfl) ?_
              refine kc_X12_89 rfl (dtk dt_X12_forge 108 (240, .invokevirtual 89, 3) rfl) (c_X12_refused (G := G)  hm.1) rfl rfl (wk_36 hm.1) (fitR (by decide) (by decide)) (Nat.le_of_ble_eq_true rfl) (pqK ?_)
              refine x_goto (tgt := 288) (dtk dt_X12_forge 109 (243, .goto 45, 3) rfl) (by decide) ?_
              exact r_i (dtk dt_X12_forge 133 (288, .ireturn, 1) rfl) rfl (by first | (rw [if_neg hok]; done) | (rw [if_pos hok]; unfold fgR isSt; simp_all; done) | (rw [if_pos hok]; unfold fgR isSt; simp_all <;> omega)) (by first | (rw [if_neg hok]; done) | (rw [if_pos hok]; congr 1; unfold fgS isSt; simp_all; done) | (rw [if_pos hok]; congr 1; unfold fgS isSt; simp_all <;> omega))
          · skip
            refine x_aload_n (dtk dt_X12_forge 97 (218, .aload_n 0, 1) rfl) rfl ?_
            refine x_bipush (v := 10) ⟨by decide, by decide⟩ (dtk dt_X12_forge 98 (219, .bipush 10, 2) rfl) ?_
            refine kc_X12_89 rfl (dtk dt_X12_forge 99 (221, .invokevirtual 89, 3) rfl) (c_X12_refused (G := G)  hm.1) rfl rfl (wk_36 hm.1) (fitR (by decide) (by decide)) (Nat.le_of_ble_eq_true rfl) (pqK ?_)
            refine x_goto (tgt := 288) (dtk dt_X12_forge 100 (224, .goto 64, 3) rfl) (by decide) ?_
            exact r_i (dtk dt_X12_forge 133 (288, .ireturn, 1) rfl) rfl (by first | (rw [if_neg hok]; done) | (rw [if_pos hok]; unfold fgR isSt; simp_all; done) | (rw [if_pos hok]; unfold fgR isSt; simp_all <;> omega)) (by first | (rw [if_neg hok]; done) | (rw [if_pos hok]; congr 1; unfold fgS isSt; simp_all; done) | (rw [if_pos hok]; congr 1; unfold fgS isSt; simp_all <;> omega))
        by_cases s54_4 : w = 4
        · skip
          refine x_tsIn (tgt := 289) (off := 235) (dtk dt_X12_forge 28 (54, .tableswitch 305 0 5 #[38, 51, 70, 153, 235, 282], 38) rfl) (by omega) (by omega) (by rw [s54_4]; rfl) (by decide) ?_
          refine x_aload_n (dtk dt_X12_forge 134 (289, .aload_n 0, 1) rfl) rfl ?_
          refine x_iload (dtk dt_X12_forge 135 (290, .iload 4, 2) rfl) rfl ?_
          refine kc_X12_78 rfl (dtk dt_X12_forge 136 (292, .invokevirtual 78, 3) rfl) (c_X12_isOrder (G := G)  hm) rfl rfl (wk_36 hm.1) (fitR (by decide) (by decide)) (Nat.le_of_ble_eq_true rfl) (pqK ?_)
          refine x_if_neB (tgt := 306) (dtk dt_X12_forge 137 (295, .ifCond .ne 11, 3) rfl) (by decide) (fun c295 => ?_) (fun c295 => ?_)
          · skip
            refine x_aload_n (dtk dt_X12_forge 142 (306, .aload_n 0, 1) rfl) rfl ?_
            refine x_iload (dtk dt_X12_forge 143 (307, .iload 4, 2) rfl) rfl ?_
            refine kc_X12_269 rfl (dtk dt_X12_forge 144 (309, .invokevirtual 269, 3) rfl) (c_X12_isStack (G := G)  hm.1 (by omega)) rfl rfl (wk_36 hm.1) (fitR (by decide) (by decide)) (Nat.le_of_ble_eq_true rfl) (pqK ?_)
            refine x_if_eqB (tgt := 329) (dtk dt_X12_forge 145 (312, .ifCond .eq 17, 3) rfl) (by decide) (fun c312 => ?_) (fun c312 => ?_)
            · skip
              refine x_aload_n (dtk dt_X12_forge 153 (329, .aload_n 0, 1) rfl) rfl ?_
              refine x_bipush (v := 14) ⟨by decide, by decide⟩ (dtk dt_X12_forge 154 (330, .bipush 14, 2) rfl) ?_
              refine kc_X12_89 rfl (dtk dt_X12_forge 155 (332, .invokevirtual 89, 3) rfl) (c_X12_refused (G := G)  hm.1) rfl rfl (wk_36 hm.1) (fitR (by decide) (by decide)) (Nat.le_of_ble_eq_true rfl) (pqK ?_)
              exact r_i (dtk dt_X12_forge 156 (335, .ireturn, 1) rfl) rfl (by first | (rw [if_neg hok]; done) | (rw [if_pos hok]; unfold fgR isSt; simp_all; done) | (rw [if_pos hok]; unfold fgR isSt; simp_all <;> omega)) (by first | (rw [if_neg hok]; done) | (rw [if_pos hok]; congr 1; unfold fgS isSt; simp_all; done) | (rw [if_pos hok]; congr 1; unfold fgS isSt; simp_all <;> omega))
            · skip
              refine x_aload_n (dtk dt_X12_forge 146 (315, .aload_n 0, 1) rfl) rfl ?_
              refine x_aload_n (dtk dt_X12_forge 147 (316, .aload_n 0, 1) rfl) rfl ?_
              refine fg_X12_7 rfl (dtk dt_X12_forge 148 (317, .getfield 7, 3) rfl) (wk_36 hm.1) (wm_36_1 hm.1) ?_
              refine x_iload (dtk dt_X12_forge 149 (320, .iload 4, 2) rfl) rfl ?_
              refine x_iald (dtk dt_X12_forge 150 (322, .iaload, 1) rfl) (wk_37 hm.1) ⟨by omega, by omega⟩ ?_
              refine kc_X12_97 rfl (dtk dt_X12_forge 151 (323, .invokevirtual 97, 3) rfl) (c_X12_done (G := G)  hm.1) rfl rfl (wk_36 hm.1) (fitR (by decide) (by decide)) (Nat.le_of_ble_eq_true rfl) (pqK ?_)
              refine x_goto (tgt := 335) (dtk dt_X12_forge 152 (326, .goto 9, 3) rfl) (by decide) ?_
              exact r_i (dtk dt_X12_forge 156 (335, .ireturn, 1) rfl) rfl (by first | (rw [if_neg hok]; done) | (rw [if_pos hok]; unfold fgR isSt; simp_all; done) | (rw [if_pos hok]; unfold fgR isSt; simp_all <;> omega)) (by first | (rw [if_neg hok]; done) | (rw [if_pos hok]; congr 1; unfold fgS isSt; simp_all; done) | (rw [if_pos hok]; congr 1; unfold fgS isSt; simp_all <;> omega))
          · skip
            refine x_aload_n (dtk dt_X12_forge 138 (298, .aload_n 0, 1) rfl) rfl ?_
            refine x_iconst (v := 0) ⟨by decide, by decide⟩ (dtk dt_X12_forge 139 (299, .iconst 0, 1) rfl) ?_
            refine kc_X12_97 rfl (dtk dt_X12_forge 140 (300, .invokevirtual 97, 3) rfl) (c_X12_done (G := G)  hm.1) rfl rfl (wk_36 hm.1) (fitR (by decide) (by decide)) (Nat.le_of_ble_eq_true rfl) (pqK ?_)
            refine x_goto (tgt := 335) (dtk dt_X12_forge 141 (303, .goto 32, 3) rfl) (by decide) ?_
            exact r_i (dtk dt_X12_forge 156 (335, .ireturn, 1) rfl) rfl (by first | (rw [if_neg hok]; done) | (rw [if_pos hok]; unfold fgR isSt; simp_all; done) | (rw [if_pos hok]; unfold fgR isSt; simp_all <;> omega)) (by first | (rw [if_neg hok]; done) | (rw [if_pos hok]; congr 1; unfold fgS isSt; simp_all; done) | (rw [if_pos hok]; congr 1; unfold fgS isSt; simp_all <;> omega))
        by_cases s54_5 : w = 5
        · skip
          refine x_tsIn (tgt := 336) (off := 282) (dtk dt_X12_forge 28 (54, .tableswitch 305 0 5 #[38, 51, 70, 153, 235, 282], 38) rfl) (by omega) (by omega) (by rw [s54_5]; rfl) (by decide) ?_
          refine x_iload_n (dtk dt_X12_forge 157 (336, .iload_n 2, 1) rfl) rfl ?_
          refine x_if_ne (tgt := 349) (dtk dt_X12_forge 158 (337, .ifCond .ne 12, 3) rfl) (by decide) (fun c337 => ?_) (fun c337 => ?_)
          · skip
            refine x_aload_n (dtk dt_X12_forge 163 (349, .aload_n 0, 1) rfl) rfl ?_
            refine x_sipush (v := 1000) ⟨by decide, by decide⟩ (dtk dt_X12_forge 164 (350, .sipush 1000, 3) rfl) ?_
            refine x_iload_n (dtk dt_X12_forge 165 (353, .iload_n 2, 1) rfl) rfl ?_
            refine x_idivR (by omega) (div1000 hq) (dtk dt_X12_forge 166 (354, .idiv, 1) rfl) ?_
            refine kc_X12_97 rfl (dtk dt_X12_forge 167 (355, .invokevirtual 97, 3) rfl) (c_X12_done (G := G)  hm.1) rfl rfl (wk_36 hm.1) (fitR (by decide) (by decide)) (Nat.le_of_ble_eq_true rfl) (pqK ?_)
            exact r_i (dtk dt_X12_forge 168 (358, .ireturn, 1) rfl) rfl (by first | (rw [if_neg hok]; done) | (rw [if_pos hok]; unfold fgR isSt; simp_all; done) | (rw [if_pos hok]; unfold fgR isSt; simp_all <;> omega)) (by first | (rw [if_neg hok]; done) | (rw [if_pos hok]; congr 1; unfold fgS isSt; simp_all; done) | (rw [if_pos hok]; congr 1; unfold fgS isSt; simp_all <;> omega))
          · skip
            refine x_aload_n (dtk dt_X12_forge 159 (340, .aload_n 0, 1) rfl) rfl ?_
            refine x_bipush (v := 15) ⟨by decide, by decide⟩ (dtk dt_X12_forge 160 (341, .bipush 15, 2) rfl) ?_
            refine kc_X12_89 rfl (dtk dt_X12_forge 161 (343, .invokevirtual 89, 3) rfl) (c_X12_refused (G := G)  hm.1) rfl rfl (wk_36 hm.1) (fitR (by decide) (by decide)) (Nat.le_of_ble_eq_true rfl) (pqK ?_)
            refine x_goto (tgt := 358) (dtk dt_X12_forge 162 (346, .goto 12, 3) rfl) (by decide) ?_
            exact r_i (dtk dt_X12_forge 168 (358, .ireturn, 1) rfl) rfl (by first | (rw [if_neg hok]; done) | (rw [if_pos hok]; unfold fgR isSt; simp_all; done) | (rw [if_pos hok]; unfold fgR isSt; simp_all <;> omega)) (by first | (rw [if_neg hok]; done) | (rw [if_pos hok]; congr 1; unfold fgS isSt; simp_all; done) | (rw [if_pos hok]; congr 1; unfold fgS isSt; simp_all <;> omega))
        refine x_tsOut (tgt := 359) (dtk dt_X12_forge 28 (54, .tableswitch 305 0 5 #[38, 51, 70, 153, 235, 282], 38) rfl) (by omega) (by decide) ?_
        refine x_iload_n (dtk dt_X12_forge 169 (359, .iload_n 2, 1) rfl) rfl ?_
        refine x_iconst (v := 1) ⟨by decide, by decide⟩ (dtk dt_X12_forge 170 (360, .iconst 1, 1) rfl) ?_
        refine x_iand (dtk dt_X12_forge 171 (361, .iand, 1) rfl) ?_
        refine x_if_ne (tgt := 374) (dtk dt_X12_forge 172 (362, .ifCond .ne 12, 3) rfl) (by decide) (fun c362 => ?_) (fun c362 => ?_)
        · skip
          refine x_aload_n (dtk dt_X12_forge 177 (374, .aload_n 0, 1) rfl) rfl ?_
          refine x_iconst (v := 1) ⟨by decide, by decide⟩ (dtk dt_X12_forge 178 (375, .iconst 1, 1) rfl) ?_
          refine kc_X12_97 rfl (dtk dt_X12_forge 179 (376, .invokevirtual 97, 3) rfl) (c_X12_done (G := G)  hm.1) rfl rfl (wk_36 hm.1) (fitR (by decide) (by decide)) (Nat.le_of_ble_eq_true rfl) (pqK ?_)
          exact r_i (dtk dt_X12_forge 180 (379, .ireturn, 1) rfl) rfl (by first | (rw [if_neg hok]; done) | (rw [if_pos hok]; unfold fgR isSt; simp_all; done) | (rw [if_pos hok]; unfold fgR isSt; simp_all <;> omega)) (by first | (rw [if_neg hok]; done) | (rw [if_pos hok]; congr 1; unfold fgS isSt; simp_all; done) | (rw [if_pos hok]; congr 1; unfold fgS isSt; simp_all <;> omega))
        · skip
          refine x_aload_n (dtk dt_X12_forge 173 (365, .aload_n 0, 1) rfl) rfl ?_
          refine x_bipush (v := 10) ⟨by decide, by decide⟩ (dtk dt_X12_forge 174 (366, .bipush 10, 2) rfl) ?_
          refine kc_X12_89 rfl (dtk dt_X12_forge 175 (368, .invokevirtual 89, 3) rfl) (c_X12_refused (G := G)  hm.1) rfl rfl (wk_36 hm.1) (fitR (by decide) (by decide)) (Nat.le_of_ble_eq_true rfl) (pqK ?_)
          refine x_goto (tgt := 379) (dtk dt_X12_forge 176 (371, .goto 8, 3) rfl) (by decide) ?_
          exact r_i (dtk dt_X12_forge 180 (379, .ireturn, 1) rfl) rfl (by first | (rw [if_neg hok]; done) | (rw [if_pos hok]; unfold fgR isSt; simp_all; done) | (rw [if_pos hok]; unfold fgR isSt; simp_all <;> omega)) (by first | (rw [if_neg hok]; done) | (rw [if_pos hok]; congr 1; unfold fgS isSt; simp_all; done) | (rw [if_pos hok]; congr 1; unfold fgS isSt; simp_all <;> omega))
      · skip
        have hok : ¬ fgOk w q k = true := by (unfold fgOk; simp_all <;> omega)
        refine x_aload_n (dtk dt_X12_forge 15 (32, .aload_n 0, 1) rfl) rfl ?_
        refine x_iconst (v := 1) ⟨by decide, by decide⟩ (dtk dt_X12_forge 16 (33, .iconst 1, 1) rfl) ?_
        refine kc_X12_89 rfl (dtk dt_X12_forge 17 (34, .invokevirtual 89, 3) rfl) (c_X12_refused (G := G)  hm.1) rfl rfl (wk_36 hm.1) (fitR (by decide) (by decide)) (Nat.le_of_ble_eq_true rfl) (pqK ?_)
        exact r_i (dtk dt_X12_forge 18 (37, .ireturn, 1) rfl) rfl (by first | (rw [if_neg hok]; done) | (rw [if_pos hok]; unfold fgR isSt; simp_all; done) | (rw [if_pos hok]; unfold fgR isSt; simp_all <;> omega)) (by first | (rw [if_neg hok]; done) | (rw [if_pos hok]; congr 1; unfold fgS isSt; simp_all; done) | (rw [if_pos hok]; congr 1; unfold fgS isSt; simp_all <;> omega))
set_option maxRecDepth 100000 in
set_option maxHeartbeats 4000000 in
theorem c_X12_layAll {G : GG} {n : Nat} {K : KK} {M : MM} {o a b : Int} {m : Int} {d : Int → Int} (hA : AT K M o m d) (ha : 0 ≤ a ∧ a < 10) : MC G mi_X12_layAll 3 0 0 [(1, 36), (0, o), (0, a), (0, b)] n K M (SQ none n K M (fun M' => (∀ s, 0 ≤ s → s < p2 m → M' 47 s = wyS m d a b (p2 m) s) ∧ ∀ s, 0 ≤ s → s < p2 m → M' 48 s = lyF m d a b s)) := by
  refine MC.intro (lc := [(0, (1, 36)), (1, (0, o)), (2, (0, a)), (3, (0, b))]) (by decide) rfl (by simp [Nat.ble]) (Nat.le_of_ble_eq_true rfl) rfl (fun hMR => ?_)
  have ho := hA.2.1
  have hsz := hA.ok.1
  have hp := p2_b hsz
  refine x_iconst (v := 1) ⟨by decide, by decide⟩ (dtk dt_X12_layAll 0 (0, .iconst 1, 1) rfl) ?_
  refine x_aload_n (dtk dt_X12_layAll 1 (1, .aload_n 0, 1) rfl) rfl ?_
  refine fg_X12_13 rfl (dtk dt_X12_layAll 2 (2, .getfield 13, 3) rfl) (wk_36 hA.wf) (wm_36_2 hA.wf) ?_
  refine x_iload_n (dtk dt_X12_layAll 3 (5, .iload_n 1, 1) rfl) rfl ?_
  refine x_iald (dtk dt_X12_layAll 4 (6, .iaload, 1) rfl) (wk_38 hA.wf) ⟨by omega, by omega⟩ ?_
  rw [hA.sz]
  refine x_ishl (dtk dt_X12_layAll 5 (7, .ishl, 1) rfl) ?_
  change MW G _ _ _ _ _ _ ((0, p2 m) :: _) _ _ _
  refine x_iconst (v := 1) ⟨by decide, by decide⟩ (dtk dt_X12_layAll 6 (8, .iconst 1, 1) rfl) ?_
  refine y_isub (dtk dt_X12_layAll 7 (9, .isub, 1) rfl) ⟨by omega, by omega⟩ ?_
  refine x_istore (dtk dt_X12_layAll 8 (10, .istore 4, 2) rfl) (by decide) ?_
  refine x_iconst (v := 0) ⟨by decide, by decide⟩ (dtk dt_X12_layAll 9 (12, .iconst 0, 1) rfl) ?_
  refine x_istore (dtk dt_X12_layAll 10 (13, .istore 5, 2) rfl) (by decide) ?_
  have L15 : ∀ (fu : Nat) (v5 : Int) (M1 : MM), (0 ≤ v5 ∧ v5 ≤ p2 m) → (sc M M1) → (∀ s, 0 ≤ s → s < v5 → M1 47 s = wy0 s) → (p2 m - v5).toNat = fu → MW G mi_X12_layAll (rmd 3 0 0) (MZ G (SQ none n K M (fun M' => (∀ s, 0 ≤ s → s < p2 m → M' 47 s = wyS m d a b (p2 m) s) ∧ ∀ s, 0 ≤ s → s < p2 m → M' 48 s = lyF m d a b s)) 0 0) (0, 0) 15 [(0, (1, 36)), (1, (0, o)), (2, (0, a)), (3, (0, b)), (4, (0, p2 m - 1)), (5, (0, v5))] [] n K (M1) := by
    intro fu
    induction fu using Nat.strongRecOn with
    | ind fu ih15 =>
      intro v5 M1 h1 hs hw hk15
      refine x_iload (dtk dt_X12_layAll 11 (15, .iload 5, 2) rfl) rfl ?_
      refine x_iload (dtk dt_X12_layAll 12 (17, .iload 4, 2) rfl) rfl ?_
      refine x_icmp_gt (tgt := 45) (dtk dt_X12_layAll 13 (19, .if_icmp .gt 26, 3) rfl) (by decide) (fun c19 => ?_) (fun c19 => ?_)
      · skip
        refine x_iconst (v := 0) ⟨by decide, by decide⟩ (dtk dt_X12_layAll 25 (45, .iconst 0, 1) rfl) ?_
        refine x_istore (dtk dt_X12_layAll 26 (46, .istore 5, 2) rfl) (by decide) ?_
        have L48 : ∀ (fu : Nat) (v5 : Int) (M2 : MM), (0 ≤ v5 ∧ v5 ≤ p2 m) → (sc M M2) → (∀ s, 0 ≤ s → s < p2 m → M2 47 s = wyS m d a b v5 s) → (p2 m - v5).toNat = fu → MW G mi_X12_layAll (rmd 3 0 0) (MZ G (SQ none n K M (fun M' => (∀ s, 0 ≤ s → s < p2 m → M' 47 s = wyS m d a b (p2 m) s) ∧ ∀ s, 0 ≤ s → s < p2 m → M' 48 s = lyF m d a b s)) 0 0) (0, 0) 48 [(0, (1, 36)), (1, (0, o)), (2, (0, a)), (3, (0, b)), (4, (0, p2 m - 1)), (5, (0, v5))] [] n K (M2) := by
          intro fu
          induction fu using Nat.strongRecOn with
          | ind fu ih48 =>
            intro v5 M2 h3 hs2 hw2 hk48
            refine MW.fact (fun hR2 _ _ => ?_)
            refine x_iload (dtk dt_X12_layAll 27 (48, .iload 5, 2) rfl) rfl ?_
            refine x_iload (dtk dt_X12_layAll 28 (50, .iload 4, 2) rfl) rfl ?_
            refine x_icmp_gt (tgt := 131) (dtk dt_X12_layAll 29 (52, .if_icmp .gt 79, 3) rfl) (by decide) (fun c52 => ?_) (fun c52 => ?_)
            · skip
              refine x_iload (dtk dt_X12_layAll 72 (131, .iload 4, 2) rfl) rfl ?_
              refine x_istore (dtk dt_X12_layAll 73 (133, .istore 5, 2) rfl) (by decide) ?_
              have L135 : ∀ (fu : Nat) (v5 : Int) (M4 : MM), (-1 ≤ v5 ∧ v5 < p2 m) → (sc M M4) → (∀ s, 0 ≤ s → s < p2 m → M4 47 s = wyS m d a b (p2 m) s) → (∀ s, v5 < s → s < p2 m → M4 48 s = lyF m d a b s) → (v5 + 1).toNat = fu → MW G mi_X12_layAll (rmd 3 0 0) (MZ G (SQ none n K M (fun M' => (∀ s, 0 ≤ s → s < p2 m → M' 47 s = wyS m d a b (p2 m) s) ∧ ∀ s, 0 ≤ s → s < p2 m → M' 48 s = lyF m d a b s)) 0 0) (0, 0) 135 [(0, (1, 36)), (1, (0, o)), (2, (0, a)), (3, (0, b)), (4, (0, p2 m - 1)), (5, (0, v5))] [] n K (M4) := by
                intro fu
                induction fu using Nat.strongRecOn with
                | ind fu ih135 =>
                  intro v5 M4 h7 hs4 hw4 hl4 hk135
                  refine x_iload (dtk dt_X12_layAll 74 (135, .iload 5, 2) rfl) rfl ?_
                  refine x_if_lt (tgt := 225) (dtk dt_X12_layAll 75 (137, .ifCond .lt 88, 3) rfl) (by decide) (fun c137 => ?_) (fun c137 => ?_)
                  · skip
                    exact rs_v (dtk dt_X12_layAll 123 (225, .return_, 1) rfl) rfl hs4 ⟨hw4, fun s h0 h1 => hl4 s (by omega) h1⟩
                  · skip
                    refine x_aload_n (dtk dt_X12_layAll 76 (140, .aload_n 0, 1) rfl) rfl ?_
                    refine fg_X12_47 rfl (dtk dt_X12_layAll 77 (141, .getfield 47, 3) rfl) (wk_36 hA.wf) (wm_36_17 (hA.off hs4).wf) ?_
                    refine x_iload (dtk dt_X12_layAll 78 (144, .iload 5, 2) rfl) rfl ?_
                    have J158_20 : ∀ (jb : Bool), (jb = decide (v5 = p2 m - 1)) → MW G mi_X12_layAll (rmd 3 0 0) (MZ G (SQ none n K M (fun M' => (∀ s, 0 ≤ s → s < p2 m → M' 47 s = wyS m d a b (p2 m) s) ∧ ∀ s, 0 ≤ s → s < p2 m → M' 48 s = lyF m d a b s)) 0 0) (0, 0) 158 [(0, (1, 36)), (1, (0, o)), (2, (0, a)), (3, (0, b)), (4, (0, p2 m - 1)), (5, (0, v5))] [(0, B jb), (0, v5), (1, 48)] n K (M4) := by
                      intro jb hJ
                      refine x_iast (dtk dt_X12_layAll 85 (158, .iastore, 1) rfl) (wk_48 hA.wf) ⟨by omega, by omega⟩ ?_
                      refine x_iconst (v := 0) ⟨by decide, by decide⟩ (dtk dt_X12_layAll 86 (159, .iconst 0, 1) rfl) ?_
                      refine x_istore (dtk dt_X12_layAll 87 (160, .istore 6, 2) rfl) (by decide) ?_
                      have L162 : ∀ (fu : Nat) (v6 : Int) (M5 : MM), (0 ≤ v6 ∧ v6 ≤ m) → (sc M M5) → (∀ s, 0 ≤ s → s < p2 m → M5 47 s = wyS m d a b (p2 m) s) → (∀ s, v5 < s → s < p2 m → M5 48 s = lyF m d a b s) → (M5 48 v5 = foldZ v6 (fun acc c => wr (acc + (if may d a b v5 c then lyF m d a b (plus v5 c) else 0))) (B (decide (v5 = p2 m - 1)))) → (m - v6).toNat = fu → MW G mi_X12_layAll (rmd 3 0 0) (MZ G (SQ none n K M (fun M' => (∀ s, 0 ≤ s → s < p2 m → M' 47 s = wyS m d a b (p2 m) s) ∧ ∀ s, 0 ≤ s → s < p2 m → M' 48 s = lyF m d a b s)) 0 0) (0, 0) 162 [(0, (1, 36)), (1, (0, o)), (2, (0, a)), (3, (0, b)), (4, (0, p2 m - 1)), (5, (0, v5)), (6, (0, v6))] [] n K (M5) := by
                        intro fu
                        induction fu using Nat.strongRecOn with
                        | ind fu ih162 =>
                          intro v6 M5 h9 hs5 hw5 hl5 hl5b hk162
                          refine x_iload (dtk dt_X12_layAll 88 (162, .iload 6, 2) rfl) rfl ?_
                          refine x_aload_n (dtk dt_X12_layAll 89 (164, .aload_n 0, 1) rfl) rfl ?_
                          refine fg_X12_13 rfl (dtk dt_X12_layAll 90 (165, .getfield 13, 3) rfl) (wk_36 hA.wf) (wm_36_2 (hA.off hs5).wf) ?_
                          refine x_iload_n (dtk dt_X12_layAll 91 (168, .iload_n 1, 1) rfl) rfl ?_
                          refine x_iald (dtk dt_X12_layAll 92 (169, .iaload, 1) rfl) (wk_38 hA.wf) ⟨by omega, by omega⟩ ?_
                          rw [(hA.off hs5).sz]
                          refine x_icmp_ge (tgt := 219) (dtk dt_X12_layAll 93 (170, .if_icmp .ge 49, 3) rfl) (by decide) (fun c170 => ?_) (fun c170 => ?_)
                          · skip
                            refine y_iinc (dtk dt_X12_layAll 121 (219, .iinc 5 (-1), 3) rfl) rfl (by decide) ⟨by omega, by omega⟩ ?_
                            refine x_goto (tgt := 135) (dtk dt_X12_layAll 122 (222, .goto (-87), 3) rfl) (by decide) ?_
                            refine MW.sub [1, 2, 3, 4, 5, 0] rfl ?_
                            exact ih135 _ (by omega) _ _ (by omega) hs5 hw5 (fun s h0 h1 => by by_cases hq : s = v5; (rw [hq, hl5b, lyF_eq hsz (by omega), show v6 = m by omega]); exact hl5 s (by omega) h1) rfl
                          · skip
                            refine x_aload_n (dtk dt_X12_layAll 94 (173, .aload_n 0, 1) rfl) rfl ?_
                            refine fg_X12_47 rfl (dtk dt_X12_layAll 95 (174, .getfield 47, 3) rfl) (wk_36 hA.wf) (wm_36_17 (hA.off hs5).wf) ?_
                            refine x_iload (dtk dt_X12_layAll 96 (177, .iload 5, 2) rfl) rfl ?_
                            refine x_dup2 rfl rfl (dtk dt_X12_layAll 97 (179, .dup2, 1) rfl) ?_
                            refine x_iald (dtk dt_X12_layAll 98 (180, .iaload, 1) rfl) (wk_48 hA.wf) ⟨by omega, by omega⟩ ?_
                            refine x_aload_n (dtk dt_X12_layAll 99 (181, .aload_n 0, 1) rfl) rfl ?_
                            refine x_iload_n (dtk dt_X12_layAll 100 (182, .iload_n 1, 1) rfl) rfl ?_
                            refine x_iload (dtk dt_X12_layAll 101 (183, .iload 5, 2) rfl) rfl ?_
                            refine x_iload (dtk dt_X12_layAll 102 (185, .iload 6, 2) rfl) rfl ?_
                            refine x_iload_n (dtk dt_X12_layAll 103 (187, .iload_n 2, 1) rfl) rfl ?_
                            refine x_iload_n (dtk dt_X12_layAll 104 (188, .iload_n 3, 1) rfl) rfl ?_
                            refine kc_X12_142 rfl (dtk dt_X12_layAll 105 (189, .invokevirtual 142, 3) rfl) (c_X12_may (G := G)  (hA.off hs5) ⟨by omega, by omega⟩ (by omega) (by omega)) rfl rfl (wk_36 hA.wf) (fitR (by decide) (by decide)) (Nat.le_of_ble_eq_true rfl) (pqK ?_)
                            refine x_if_eqB (tgt := 210) (dtk dt_X12_layAll 106 (192, .ifCond .eq 18, 3) rfl) (by decide) (fun c192 => ?_) (fun c192 => ?_)
                            · skip
                              refine x_iconst (v := 0) ⟨by decide, by decide⟩ (dtk dt_X12_layAll 116 (210, .iconst 0, 1) rfl) ?_
                              refine w_iadd (dtk dt_X12_layAll 117 (211, .iadd, 1) rfl) ?_
                              refine x_iast (dtk dt_X12_layAll 118 (212, .iastore, 1) rfl) (wk_48 hA.wf) ⟨by omega, by omega⟩ ?_
                              refine y_iinc (dtk dt_X12_layAll 119 (213, .iinc 6 1, 3) rfl) rfl (by decide) ⟨by omega, by omega⟩ ?_
                              refine x_goto (tgt := 162) (dtk dt_X12_layAll 120 (216, .goto (-54), 3) rfl) (by decide) ?_
                              refine MW.sub [1, 2, 3, 4, 5, 6, 0] rfl ?_
                              exact ih162 _ (by omega) _ _ (by omega) (sc.st 48 rfl hs5) (fun s h0 h1 => by rw [st2_ne _ (show (47 : Int) ≠ 48 by decide)]; exact hw5 s h0 h1) (fun s h0 h1 => by rw [st2_o _ (by omega)]; exact hl5 s h0 h1) (by rw [st2_self, foldZ_s h9.1, ← hl5b]; first | (rw [if_pos c192, hl5 (plus v5 v6) (plus_gt ⟨by omega, by omega⟩ (by omega) (may_nb c192)) hpl.2]; done) | (rw [if_neg (by rw [c192]; decide)]; done)) rfl
                            · skip
                              refine x_aload_n (dtk dt_X12_layAll 107 (195, .aload_n 0, 1) rfl) rfl ?_
                              refine fg_X12_47 rfl (dtk dt_X12_layAll 108 (196, .getfield 47, 3) rfl) (wk_36 hA.wf) (wm_36_17 (hA.off hs5).wf) ?_
                              refine x_iload (dtk dt_X12_layAll 109 (199, .iload 5, 2) rfl) rfl ?_
                              refine x_iconst (v := 1) ⟨by decide, by decide⟩ (dtk dt_X12_layAll 110 (201, .iconst 1, 1) rfl) ?_
                              refine x_iload (dtk dt_X12_layAll 111 (202, .iload 6, 2) rfl) rfl ?_
                              refine x_ishl (dtk dt_X12_layAll 112 (204, .ishl, 1) rfl) ?_
                              refine x_ior (dtk dt_X12_layAll 113 (205, .ior, 1) rfl) ?_
                              change MW G _ _ _ _ _ _ ((0, plus v5 v6) :: _) _ _ _
                              have hpl := plus_in (c := v6) hsz (s := v5) (by omega) (by omega)
                              refine x_iald (dtk dt_X12_layAll 114 (206, .iaload, 1) rfl) (wk_48 hA.wf) ⟨by omega, by omega⟩ ?_
                              refine x_goto (tgt := 211) (dtk dt_X12_layAll 115 (207, .goto 4, 3) rfl) (by decide) ?_
                              refine w_iadd (dtk dt_X12_layAll 117 (211, .iadd, 1) rfl) ?_
                              refine x_iast (dtk dt_X12_layAll 118 (212, .iastore, 1) rfl) (wk_48 hA.wf) ⟨by omega, by omega⟩ ?_
                              refine y_iinc (dtk dt_X12_layAll 119 (213, .iinc 6 1, 3) rfl) rfl (by decide) ⟨by omega, by omega⟩ ?_
                              refine x_goto (tgt := 162) (dtk dt_X12_layAll 120 (216, .goto (-54), 3) rfl) (by decide) ?_
                              refine MW.sub [1, 2, 3, 4, 5, 6, 0] rfl ?_
                              exact ih162 _ (by omega) _ _ (by omega) (sc.st 48 rfl hs5) (fun s h0 h1 => by rw [st2_ne _ (show (47 : Int) ≠ 48 by decide)]; exact hw5 s h0 h1) (fun s h0 h1 => by rw [st2_o _ (by omega)]; exact hl5 s h0 h1) (by rw [st2_self, foldZ_s h9.1, ← hl5b]; first | (rw [if_pos c192, hl5 (plus v5 v6) (plus_gt ⟨by omega, by omega⟩ (by omega) (may_nb c192)) hpl.2]; done) | (rw [if_neg (by rw [c192]; decide)]; done)) rfl
                      refine MW.sub [1, 2, 3, 4, 5, 6, 0] rfl ?_
                      exact L162 _ _ _ (by omega) (sc.st 48 rfl hs4) (fun s h0 h1 => by rw [st2_ne _ (show (47 : Int) ≠ 48 by decide)]; exact hw4 s h0 h1) (fun s h0 h1 => by rw [st2_o _ (by omega)]; exact hl4 s h0 h1) (by rw [st2_self, foldZ_0, hJ]) rfl
                    refine x_iload (dtk dt_X12_layAll 79 (146, .iload 5, 2) rfl) rfl ?_
                    refine x_iload (dtk dt_X12_layAll 80 (148, .iload 4, 2) rfl) rfl ?_
                    refine x_icmp_ne (tgt := 157) (dtk dt_X12_layAll 81 (150, .if_icmp .ne 7, 3) rfl) (by decide) (fun c150 => ?_) (fun c150 => ?_)
                    · skip
                      refine x_iconst (v := 0) ⟨by decide, by decide⟩ (dtk dt_X12_layAll 84 (157, .iconst 0, 1) rfl) ?_
                      refine MW.sub [0, 1, 2, 3, 4, 5] rfl ?_
                      exact J158_20 false (by simp_all)
                    · skip
                      refine x_iconst (v := 1) ⟨by decide, by decide⟩ (dtk dt_X12_layAll 82 (153, .iconst 1, 1) rfl) ?_
                      refine x_goto (tgt := 158) (dtk dt_X12_layAll 83 (154, .goto 4, 3) rfl) (by decide) ?_
                      refine MW.sub [0, 1, 2, 3, 4, 5] rfl ?_
                      exact J158_20 true (by simp_all)
              refine MW.sub [1, 2, 3, 4, 5, 0] rfl ?_
              exact L135 _ _ _ (by omega) hs2 (fun s h0 h1 => by rw [hw2 s h0 h1, show v5 = p2 m by omega]) (fun s h0 h1 => by omega) rfl
            · skip
              refine x_iconst (v := 0) ⟨by decide, by decide⟩ (dtk dt_X12_layAll 30 (55, .iconst 0, 1) rfl) ?_
              refine x_istore (dtk dt_X12_layAll 31 (56, .istore 6, 2) rfl) (by decide) ?_
              have L58 : ∀ (fu : Nat) (v6 : Int) (M3 : MM), (0 ≤ v6 ∧ v6 ≤ m) → (sc M M3) → (∀ s, 0 ≤ s → s < p2 m → M3 47 s = wyI m d a b v5 (wyS m d a b v5) v6 s) → (m - v6).toNat = fu → MW G mi_X12_layAll (rmd 3 0 0) (MZ G (SQ none n K M (fun M' => (∀ s, 0 ≤ s → s < p2 m → M' 47 s = wyS m d a b (p2 m) s) ∧ ∀ s, 0 ≤ s → s < p2 m → M' 48 s = lyF m d a b s)) 0 0) (0, 0) 58 [(0, (1, 36)), (1, (0, o)), (2, (0, a)), (3, (0, b)), (4, (0, p2 m - 1)), (5, (0, v5)), (6, (0, v6))] [] n K (M3) := by
                intro fu
                induction fu using Nat.strongRecOn with
                | ind fu ih58 =>
                  intro v6 M3 h5 hs3 hw3 hk58
                  have hr5 : inR (wyS m d a b v5 v5) := by (rw [← hw2 v5 h3.1 (by omega)]; exact hR2 47 v5)
                  have hself : M3 47 v5 = wyS m d a b v5 v5 := by (rw [hw3 v5 h3.1 (by omega)]; exact wyI_self ⟨by omega, by omega⟩ hr5 (by omega))
                  refine x_iload (dtk dt_X12_layAll 32 (58, .iload 6, 2) rfl) rfl ?_
                  refine x_aload_n (dtk dt_X12_layAll 33 (60, .aload_n 0, 1) rfl) rfl ?_
                  refine fg_X12_13 rfl (dtk dt_X12_layAll 34 (61, .getfield 13, 3) rfl) (wk_36 hA.wf) (wm_36_2 (hA.off hs3).wf) ?_
                  refine x_iload_n (dtk dt_X12_layAll 35 (64, .iload_n 1, 1) rfl) rfl ?_
                  refine x_iald (dtk dt_X12_layAll 36 (65, .iaload, 1) rfl) (wk_38 hA.wf) ⟨by omega, by omega⟩ ?_
                  rw [(hA.off hs3).sz]
                  refine x_icmp_ge (tgt := 125) (dtk dt_X12_layAll 37 (66, .if_icmp .ge 59, 3) rfl) (by decide) (fun c66 => ?_) (fun c66 => ?_)
                  · skip
                    refine y_iinc (dtk dt_X12_layAll 70 (125, .iinc 5 1, 3) rfl) rfl (by decide) ⟨by omega, by omega⟩ ?_
                    refine x_goto (tgt := 48) (dtk dt_X12_layAll 71 (128, .goto (-80), 3) rfl) (by decide) ?_
                    refine MW.sub [1, 2, 3, 4, 5, 0] rfl ?_
                    exact ih48 _ (by omega) _ _ (by omega) hs3 (fun s h0 h1 => by rw [hw3 s h0 h1, wyS_s h3.1]; first | (rw [show v6 = m by omega]) | (rw [wyI_neg hneg, wyI_neg hneg])) rfl
                  · skip
                    refine x_aload_n (dtk dt_X12_layAll 38 (69, .aload_n 0, 1) rfl) rfl ?_
                    refine fg_X12_44 rfl (dtk dt_X12_layAll 39 (70, .getfield 44, 3) rfl) (wk_36 hA.wf) (wm_36_16 (hA.off hs3).wf) ?_
                    refine x_iload (dtk dt_X12_layAll 40 (73, .iload 5, 2) rfl) rfl ?_
                    refine x_iald (dtk dt_X12_layAll 41 (75, .iaload, 1) rfl) (wk_47 hA.wf) ⟨by omega, by omega⟩ ?_
                    refine x_if_le (tgt := 125) (dtk dt_X12_layAll 42 (76, .ifCond .le 49, 3) rfl) (by decide) (fun c76 => ?_) (fun c76 => ?_)
                    · skip
                      have hneg : ¬ 0 < wyS m d a b v5 v5 := by (rw [← hself]; omega)
                      refine y_iinc (dtk dt_X12_layAll 70 (125, .iinc 5 1, 3) rfl) rfl (by decide) ⟨by omega, by omega⟩ ?_
                      refine x_goto (tgt := 48) (dtk dt_X12_layAll 71 (128, .goto (-80), 3) rfl) (by decide) ?_
                      refine MW.sub [1, 2, 3, 4, 5, 0] rfl ?_
                      exact ih48 _ (by omega) _ _ (by omega) hs3 (fun s h0 h1 => by rw [hw3 s h0 h1, wyS_s h3.1]; first | (rw [show v6 = m by omega]) | (rw [wyI_neg hneg, wyI_neg hneg])) rfl
                    · skip
                      have hpos : 0 < wyS m d a b v5 v5 := by (rw [← hself]; omega)
                      refine x_aload_n (dtk dt_X12_layAll 43 (79, .aload_n 0, 1) rfl) rfl ?_
                      refine fg_X12_44 rfl (dtk dt_X12_layAll 44 (80, .getfield 44, 3) rfl) (wk_36 hA.wf) (wm_36_16 (hA.off hs3).wf) ?_
                      refine x_iload (dtk dt_X12_layAll 45 (83, .iload 5, 2) rfl) rfl ?_
                      refine x_iconst (v := 1) ⟨by decide, by decide⟩ (dtk dt_X12_layAll 46 (85, .iconst 1, 1) rfl) ?_
                      refine x_iload (dtk dt_X12_layAll 47 (86, .iload 6, 2) rfl) rfl ?_
                      refine x_ishl (dtk dt_X12_layAll 48 (88, .ishl, 1) rfl) ?_
                      refine x_ior (dtk dt_X12_layAll 49 (89, .ior, 1) rfl) ?_
                      change MW G _ _ _ _ _ _ ((0, plus v5 v6) :: _) _ _ _
                      have hpl := plus_in (c := v6) hsz (s := v5) (by omega) (by omega)
                      refine x_dup2 rfl rfl (dtk dt_X12_layAll 50 (90, .dup2, 1) rfl) ?_
                      refine x_iald (dtk dt_X12_layAll 51 (91, .iaload, 1) rfl) (wk_47 hA.wf) ⟨by omega, by omega⟩ ?_
                      refine x_aload_n (dtk dt_X12_layAll 52 (92, .aload_n 0, 1) rfl) rfl ?_
                      refine x_iload_n (dtk dt_X12_layAll 53 (93, .iload_n 1, 1) rfl) rfl ?_
                      refine x_iload (dtk dt_X12_layAll 54 (94, .iload 5, 2) rfl) rfl ?_
                      refine x_iload (dtk dt_X12_layAll 55 (96, .iload 6, 2) rfl) rfl ?_
                      refine x_iload_n (dtk dt_X12_layAll 56 (98, .iload_n 2, 1) rfl) rfl ?_
                      refine x_iload_n (dtk dt_X12_layAll 57 (99, .iload_n 3, 1) rfl) rfl ?_
                      refine kc_X12_142 rfl (dtk dt_X12_layAll 58 (100, .invokevirtual 142, 3) rfl) (c_X12_may (G := G)  (hA.off hs3) ⟨by omega, by omega⟩ (by omega) (by omega)) rfl rfl (wk_36 hA.wf) (fitR (by decide) (by decide)) (Nat.le_of_ble_eq_true rfl) (pqK ?_)
                      refine x_if_eqB (tgt := 116) (dtk dt_X12_layAll 59 (103, .ifCond .eq 13, 3) rfl) (by decide) (fun c103 => ?_) (fun c103 => ?_)
                      · skip
                        refine x_iconst (v := 0) ⟨by decide, by decide⟩ (dtk dt_X12_layAll 65 (116, .iconst 0, 1) rfl) ?_
                        refine w_iadd (dtk dt_X12_layAll 66 (117, .iadd, 1) rfl) ?_
                        refine x_iast (dtk dt_X12_layAll 67 (118, .iastore, 1) rfl) (wk_47 hA.wf) ⟨by omega, by omega⟩ ?_
                        refine y_iinc (dtk dt_X12_layAll 68 (119, .iinc 6 1, 3) rfl) rfl (by decide) ⟨by omega, by omega⟩ ?_
                        refine x_goto (tgt := 58) (dtk dt_X12_layAll 69 (122, .goto (-64), 3) rfl) (by decide) ?_
                        refine MW.sub [1, 2, 3, 4, 5, 6, 0] rfl ?_
                        exact ih58 _ (by omega) _ _ (by omega) (sc.st 47 rfl hs3) (fun s h0 h1 => by rw [wyI_s hpos h5.1]; by_cases hq : s = plus v5 v6; (rw [hq, st2_self, if_pos rfl, ← hw3 _ hpl.1 hpl.2, ← hw3 v5 h3.1 (by omega)]; simp only [c103]; rfl); (rw [st2_o _ hq, if_neg hq]; exact hw3 s h0 h1)) rfl
                      · skip
                        refine x_aload_n (dtk dt_X12_layAll 60 (106, .aload_n 0, 1) rfl) rfl ?_
                        refine fg_X12_44 rfl (dtk dt_X12_layAll 61 (107, .getfield 44, 3) rfl) (wk_36 hA.wf) (wm_36_16 (hA.off hs3).wf) ?_
                        refine x_iload (dtk dt_X12_layAll 62 (110, .iload 5, 2) rfl) rfl ?_
                        refine x_iald (dtk dt_X12_layAll 63 (112, .iaload, 1) rfl) (wk_47 hA.wf) ⟨by omega, by omega⟩ ?_
                        refine x_goto (tgt := 117) (dtk dt_X12_layAll 64 (113, .goto 4, 3) rfl) (by decide) ?_
                        refine w_iadd (dtk dt_X12_layAll 66 (117, .iadd, 1) rfl) ?_
                        refine x_iast (dtk dt_X12_layAll 67 (118, .iastore, 1) rfl) (wk_47 hA.wf) ⟨by omega, by omega⟩ ?_
                        refine y_iinc (dtk dt_X12_layAll 68 (119, .iinc 6 1, 3) rfl) rfl (by decide) ⟨by omega, by omega⟩ ?_
                        refine x_goto (tgt := 58) (dtk dt_X12_layAll 69 (122, .goto (-64), 3) rfl) (by decide) ?_
                        refine MW.sub [1, 2, 3, 4, 5, 6, 0] rfl ?_
                        exact ih58 _ (by omega) _ _ (by omega) (sc.st 47 rfl hs3) (fun s h0 h1 => by rw [wyI_s hpos h5.1]; by_cases hq : s = plus v5 v6; (rw [hq, st2_self, if_pos rfl, ← hw3 _ hpl.1 hpl.2, ← hw3 v5 h3.1 (by omega)]; simp only [c103]; rfl); (rw [st2_o _ hq, if_neg hq]; exact hw3 s h0 h1)) rfl
              refine MW.sub [1, 2, 3, 4, 5, 6, 0] rfl ?_
              exact L58 _ _ _ (by omega) hs2 (fun s h0 h1 => by rw [hw2 s h0 h1]; unfold wyI; split <;> rfl) rfl
        refine MW.sub [1, 2, 3, 4, 5, 0] rfl ?_
        exact L48 _ _ _ (by omega) hs (fun s h0 h1 => hw s h0 (by omega)) rfl
      · skip
        refine x_aload_n (dtk dt_X12_layAll 14 (22, .aload_n 0, 1) rfl) rfl ?_
        refine fg_X12_44 rfl (dtk dt_X12_layAll 15 (23, .getfield 44, 3) rfl) (wk_36 hA.wf) (wm_36_16 (hA.off hs).wf) ?_
        refine x_iload (dtk dt_X12_layAll 16 (26, .iload 5, 2) rfl) rfl ?_
        refine x_iload (dtk dt_X12_layAll 17 (28, .iload 5, 2) rfl) rfl ?_
        refine x_if_ne (tgt := 37) (dtk dt_X12_layAll 18 (30, .ifCond .ne 7, 3) rfl) (by decide) (fun c30 => ?_) (fun c30 => ?_)
        · skip
          refine x_iconst (v := 0) ⟨by decide, by decide⟩ (dtk dt_X12_layAll 21 (37, .iconst 0, 1) rfl) ?_
          refine x_iast (dtk dt_X12_layAll 22 (38, .iastore, 1) rfl) (wk_47 hA.wf) ⟨by omega, by omega⟩ ?_
          refine y_iinc (dtk dt_X12_layAll 23 (39, .iinc 5 1, 3) rfl) rfl (by decide) ⟨by omega, by omega⟩ ?_
          refine x_goto (tgt := 15) (dtk dt_X12_layAll 24 (42, .goto (-27), 3) rfl) (by decide) ?_
          refine MW.sub [1, 2, 3, 4, 5, 0] rfl ?_
          exact ih15 _ (by omega) _ _ (by omega) (sc.st 47 rfl hs) (fun s h0 h1 => by by_cases hq : s = v5; (subst hq; rw [st2_self]; unfold wy0; simp_all); (show st2 M1 47 v5 _ 47 s = _; unfold st2; rw [if_pos rfl, if_neg hq]; exact hw s h0 (by omega))) rfl
        · skip
          refine x_iconst (v := 1) ⟨by decide, by decide⟩ (dtk dt_X12_layAll 19 (33, .iconst 1, 1) rfl) ?_
          refine x_goto (tgt := 38) (dtk dt_X12_layAll 20 (34, .goto 4, 3) rfl) (by decide) ?_
          refine x_iast (dtk dt_X12_layAll 22 (38, .iastore, 1) rfl) (wk_47 hA.wf) ⟨by omega, by omega⟩ ?_
          refine y_iinc (dtk dt_X12_layAll 23 (39, .iinc 5 1, 3) rfl) rfl (by decide) ⟨by omega, by omega⟩ ?_
          refine x_goto (tgt := 15) (dtk dt_X12_layAll 24 (42, .goto (-27), 3) rfl) (by decide) ?_
          refine MW.sub [1, 2, 3, 4, 5, 0] rfl ?_
          exact ih15 _ (by omega) _ _ (by omega) (sc.st 47 rfl hs) (fun s h0 h1 => by by_cases hq : s = v5; (subst hq; rw [st2_self]; unfold wy0; simp_all); (show st2 M1 47 v5 _ 47 s = _; unfold st2; rw [if_pos rfl, if_neg hq]; exact hw s h0 (by omega))) rfl
  refine MW.sub [2, 3, 4, 5, 1, 0] rfl ?_
  exact L15 _ _ _ (by omega) sc.rf (fun s h0 h1 => by omega) rfl
