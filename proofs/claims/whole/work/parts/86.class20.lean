/-! ===== the class: pairs of a sheet, kinds ===== -/
set_option maxRecDepth 100000 in
set_option maxHeartbeats 1000000 in
theorem c_X11_pairs {G : GG} {n : Nat} {K : KK} {M : MM} {o s so q : Int} (hL : LK K M) : MC G mi_X11_pairs 7 0 0 [(1, 0), (0, o), (0, s), (0, so), (0, q)] n K M (prQ n K M o s so q) := by
  refine MC.intro (lc := [(0, (1, 0)), (1, (0, o)), (2, (0, s)), (3, (0, so)), (4, (0, q))]) (by decide) rfl (by simp [Nat.ble]) (Nat.le_of_ble_eq_true rfl) rfl (fun hMR => ?_)
  refine x_aload_n (dtk dt_X11_pairs 0 (0, .aload_n 0, 1) rfl) rfl ?_
  refine x_iload_n (dtk dt_X11_pairs 1 (1, .iload_n 1, 1) rfl) rfl ?_
  by_cases hsp2_0 : 0 ≤ o ∧ o < M 36 0
  · skip
    refine kc_X11_86 rfl (dtk dt_X11_pairs 2 (2, .invokevirtual 86, 3) rfl) (c_X11_find (G := G)  hL.wf (by rw [hL.cnt]; exact hsp2_0) (by rw [hL.cnt]; exact hL.c8.2)) rfl rfl (wk_0 hL.wf) (fitR (by decide) (by decide)) (Nat.le_of_ble_eq_true rfl) (pqK ?_)
    have hO := hL.ob hsp2_0
    have hOg := hO.ge
    have hOs := hO.sz
    have hOP := hL.po hsp2_0
    have hOi := isOr_y hsp2_0
    have hkd := hL.kd hsp2_0
    refine x_astore (dtk dt_X11_pairs 3 (5, .astore 5, 2) rfl) (by decide) ?_
    refine x_aload_n (dtk dt_X11_pairs 4 (7, .aload_n 0, 1) rfl) rfl ?_
    refine x_iload_n (dtk dt_X11_pairs 5 (8, .iload_n 2, 1) rfl) rfl ?_
    by_cases hsp9_0 : 0 ≤ s ∧ s < 4
    · skip
      refine kc_X11_296 rfl (dtk dt_X11_pairs 6 (9, .invokevirtual 296, 3) rfl) (c_X11_findSheet (G := G)  hL.wf hsp9_0) rfl rfl (wk_0 hL.wf) (fitR (by decide) (by decide)) (Nat.le_of_ble_eq_true rfl) (pqK ?_)
      have hs := (sf_at hL.wf hsp9_0).1
      have hsL := hL.ls s hsp9_0.1 hsp9_0.2
      have hsz : 0 ≤ M (28 + 2 * s) 2 ∧ M (28 + 2 * s) 2 ≤ 20 := by (rw [hsL.1.2]; exact hsL.2.2.1)
      refine x_astore (dtk dt_X11_pairs 7 (12, .astore 6, 2) rfl) (by decide) ?_
      refine x_aload (dtk dt_X11_pairs 8 (14, .aload 5, 2) rfl) rfl ?_
      refine x_ifnull (tgt := 45) (dtk dt_X11_pairs 9 (16, .ifnull 29, 3) rfl) (by decide) (fun c16 => ?_) (fun c16 => ?_)
      · exact absurd c16 (by omega)
      refine x_aload (dtk dt_X11_pairs 10 (19, .aload 6, 2) rfl) rfl ?_
      refine x_ifnull (tgt := 45) (dtk dt_X11_pairs 11 (21, .ifnull 24, 3) rfl) (by decide) (fun c21 => ?_) (fun c21 => ?_)
      · exact absurd c21 (by omega)
      refine x_iload_n (dtk dt_X11_pairs 12 (24, .iload_n 3, 1) rfl) rfl ?_
      refine x_if_lt (tgt := 45) (dtk dt_X11_pairs 13 (25, .ifCond .lt 20, 3) rfl) (by decide) (fun c25 => ?_) (fun c25 => ?_)
      · skip
        refine x_aload_n (dtk dt_X11_pairs 22 (45, .aload_n 0, 1) rfl) rfl ?_
        refine x_iconst (v := 1) ⟨by decide, by decide⟩ (dtk dt_X11_pairs 23 (46, .iconst 1, 1) rfl) ?_
        refine kc_X11_71 rfl (dtk dt_X11_pairs 24 (47, .invokevirtual 71, 3) rfl) (c_X11_refuse (G := G)  hL.wf) rfl rfl (wk_0 hL.wf) (fitR (by decide) (by decide)) (Nat.le_of_ble_eq_true rfl) (pqK ?_)
        exact x_iret (dtk dt_X11_pairs 25 (50, .ireturn, 1) rfl) rfl ⟨rfl, rfl, Or.inl ⟨by (unfold prC; first | (rw [isOr_n hsp2_0]; rfl) | (rw [show (decide (0 ≤ s) && decide (s ≤ 3)) = false from by (simp; omega)]; simp; done) | (rw [show (decide (0 ≤ so) && decide (so ≤ 2)) = false from by (simp; omega)]; simp; done) | (rw [show (decide (0 ≤ q) && decide (q ≤ 10)) = false from by (simp; omega)]; simp)), rfl, rfl⟩⟩
      · skip
        refine x_iload_n (dtk dt_X11_pairs 14 (28, .iload_n 3, 1) rfl) rfl ?_
        refine x_iconst (v := 2) ⟨by decide, by decide⟩ (dtk dt_X11_pairs 15 (29, .iconst 2, 1) rfl) ?_
        refine x_icmp_gt (tgt := 45) (dtk dt_X11_pairs 16 (30, .if_icmp .gt 15, 3) rfl) (by decide) (fun c30 => ?_) (fun c30 => ?_)
        · skip
          refine x_aload_n (dtk dt_X11_pairs 22 (45, .aload_n 0, 1) rfl) rfl ?_
          refine x_iconst (v := 1) ⟨by decide, by decide⟩ (dtk dt_X11_pairs 23 (46, .iconst 1, 1) rfl) ?_
          refine kc_X11_71 rfl (dtk dt_X11_pairs 24 (47, .invokevirtual 71, 3) rfl) (c_X11_refuse (G := G)  hL.wf) rfl rfl (wk_0 hL.wf) (fitR (by decide) (by decide)) (Nat.le_of_ble_eq_true rfl) (pqK ?_)
          exact x_iret (dtk dt_X11_pairs 25 (50, .ireturn, 1) rfl) rfl ⟨rfl, rfl, Or.inl ⟨by (unfold prC; first | (rw [isOr_n hsp2_0]; rfl) | (rw [show (decide (0 ≤ s) && decide (s ≤ 3)) = false from by (simp; omega)]; simp; done) | (rw [show (decide (0 ≤ so) && decide (so ≤ 2)) = false from by (simp; omega)]; simp; done) | (rw [show (decide (0 ≤ q) && decide (q ≤ 10)) = false from by (simp; omega)]; simp)), rfl, rfl⟩⟩
        · skip
          refine x_iload (dtk dt_X11_pairs 17 (33, .iload 4, 2) rfl) rfl ?_
          refine x_if_lt (tgt := 45) (dtk dt_X11_pairs 18 (35, .ifCond .lt 10, 3) rfl) (by decide) (fun c35 => ?_) (fun c35 => ?_)
          · skip
            refine x_aload_n (dtk dt_X11_pairs 22 (45, .aload_n 0, 1) rfl) rfl ?_
            refine x_iconst (v := 1) ⟨by decide, by decide⟩ (dtk dt_X11_pairs 23 (46, .iconst 1, 1) rfl) ?_
            refine kc_X11_71 rfl (dtk dt_X11_pairs 24 (47, .invokevirtual 71, 3) rfl) (c_X11_refuse (G := G)  hL.wf) rfl rfl (wk_0 hL.wf) (fitR (by decide) (by decide)) (Nat.le_of_ble_eq_true rfl) (pqK ?_)
            exact x_iret (dtk dt_X11_pairs 25 (50, .ireturn, 1) rfl) rfl ⟨rfl, rfl, Or.inl ⟨by (unfold prC; first | (rw [isOr_n hsp2_0]; rfl) | (rw [show (decide (0 ≤ s) && decide (s ≤ 3)) = false from by (simp; omega)]; simp; done) | (rw [show (decide (0 ≤ so) && decide (so ≤ 2)) = false from by (simp; omega)]; simp; done) | (rw [show (decide (0 ≤ q) && decide (q ≤ 10)) = false from by (simp; omega)]; simp)), rfl, rfl⟩⟩
          · skip
            refine x_iload (dtk dt_X11_pairs 19 (38, .iload 4, 2) rfl) rfl ?_
            refine x_bipush (v := 10) ⟨by decide, by decide⟩ (dtk dt_X11_pairs 20 (40, .bipush 10, 2) rfl) ?_
            refine x_icmp_le (tgt := 51) (dtk dt_X11_pairs 21 (42, .if_icmp .le 9, 3) rfl) (by decide) (fun c42 => ?_) (fun c42 => ?_)
            · skip
              have hC : prC M o s so q = true := by (unfold prC; rw [isOr_y hsp2_0]; simp; omega)
              refine x_aload (dtk dt_X11_pairs 26 (51, .aload 5, 2) rfl) rfl ?_
              by_cases hsp53_0 : M 37 o = 0
              · skip
                refine kc_X11_94_X4 rfl (dtk dt_X11_pairs 27 (53, .invokevirtual 94, 3) rfl) (c_X4_kind (G := G) (p := M 1 o) ) rfl rfl (by rw [hO.k, hsp53_0]; rfl) (fitR (by decide) (by decide)) (Nat.le_of_ble_eq_true rfl) (pqK ?_)
                refine x_if_eq (tgt := 65) (dtk dt_X11_pairs 28 (56, .ifCond .eq 9, 3) rfl) (by decide) (fun c56 => ?_) (fun c56 => ?_)
                rotate_left
                · exact absurd (by decide) c56
                refine x_iload (dtk dt_X11_pairs 33 (65, .iload 4, 2) rfl) rfl ?_
                refine x_if_ne (tgt := 76) (dtk dt_X11_pairs 34 (67, .ifCond .ne 9, 3) rfl) (by decide) (fun c67 => ?_) (fun c67 => ?_)
                · skip
                  refine x_aload (dtk dt_X11_pairs 39 (76, .aload 6, 2) rfl) rfl ?_
                  refine x_iload_n (dtk dt_X11_pairs 40 (78, .iload_n 3, 1) rfl) rfl ?_
                  refine kc_X11_314 rfl (dtk dt_X11_pairs 41 (79, .invokevirtual 314, 3) rfl) (c_X8_whyNotOf (G := G)  hs) rfl rfl hs.1 (fitR (by decide) (by decide)) (Nat.le_of_ble_eq_true rfl) (pqK ?_)
                  rw [hsL.1.1]
                  refine x_istore (dtk dt_X11_pairs 42 (82, .istore 7, 2) rfl) (by decide) ?_
                  have J105_18 : ∀ (j7 : Int), (j7 = whW M s so q) → MW G mi_X11_pairs (rmd 7 0 0) (MZ G (prQ n K M o s so q) 0 0) (0, 0) 105 [(0, (1, 0)), (1, (0, o)), (2, (0, s)), (3, (0, so)), (4, (0, q)), (5, (1, M 1 o)), (6, (1, 28 + 2 * s)), (7, (0, j7))] [] n K (M) := by
                    intro j7 hj
                    refine x_iload (dtk dt_X11_pairs 53 (105, .iload 7, 2) rfl) rfl ?_
                    refine x_if_ne (tgt := 126) (dtk dt_X11_pairs 54 (107, .ifCond .ne 19, 3) rfl) (by decide) (fun c107 => ?_) (fun c107 => ?_)
                    · skip
                      refine x_aload_n (dtk dt_X11_pairs 62 (126, .aload_n 0, 1) rfl) rfl ?_
                      refine x_iload (dtk dt_X11_pairs 63 (127, .iload 7, 2) rfl) rfl ?_
                      refine kc_X11_71 rfl (dtk dt_X11_pairs 64 (129, .invokevirtual 71, 3) rfl) (c_X11_refuse (G := G)  hL.wf) rfl rfl (wk_0 hL.wf) (fitR (by decide) (by decide)) (Nat.le_of_ble_eq_true rfl) (pqK ?_)
                      exact x_iret (dtk dt_X11_pairs 65 (132, .ireturn, 1) rfl) rfl (by first | exact ⟨rfl, rfl, Or.inr (Or.inr (Or.inr (Or.inl ⟨hC, by omega, by omega, by rw [← hj]; exact c107, rfl, by rw [hj]⟩)))⟩ | exact ⟨rfl, rfl, Or.inr (Or.inr (Or.inr (Or.inr ⟨hC, by omega, by omega, by omega, rfl, _, hsO, by (rw [hsp53_0] at hE; exact hE), rfl⟩)))⟩)
                    · skip
                      have hq2 : 2 * q ≤ M 43 s := by (have hz := hj; rw [show j7 = 0 by omega] at hz; unfold whW at hz; split at hz; omega; split at hz; omega; split at hz; omega; omega)
                      refine x_aload_n (dtk dt_X11_pairs 55 (110, .aload_n 0, 1) rfl) rfl ?_
                      refine x_aload (dtk dt_X11_pairs 56 (111, .aload 5, 2) rfl) rfl ?_
                      refine x_aload (dtk dt_X11_pairs 57 (113, .aload 6, 2) rfl) rfl ?_
                      refine x_iload (dtk dt_X11_pairs 58 (115, .iload 4, 2) rfl) rfl ?_
                      refine kc_X11_318 rfl (dtk dt_X11_pairs 59 (117, .invokestatic 318, 3) rfl) (c_X11_tellPairs (G := G)  hO hs hsz (by rw [hsL.1.2]; omega) (by omega)) rfl rfl (fitR (by decide) (by decide)) (Nat.le_of_ble_eq_true rfl) (uqK (fun M117_1 hs117_1 hE117_1 => ?_))
                      have hE := hE117_1
                      have hsO := hs117_1
                      refine kc_X11_111 rfl (dtk dt_X11_pairs 60 (120, .invokevirtual 111, 3) rfl) (c_X11_answer (G := G)  hE.wf) rfl rfl (wk_0 hL.wf) (fitR (by decide) (by decide)) (Nat.le_of_ble_eq_true rfl) (pqK ?_)
                      refine x_goto (tgt := 132) (dtk dt_X11_pairs 61 (123, .goto 9, 3) rfl) (by decide) ?_
                      exact x_iret (dtk dt_X11_pairs 65 (132, .ireturn, 1) rfl) rfl (by first | exact ⟨rfl, rfl, Or.inr (Or.inr (Or.inr (Or.inl ⟨hC, by omega, by omega, by rw [← hj]; exact c107, rfl, by rw [hj]⟩)))⟩ | exact ⟨rfl, rfl, Or.inr (Or.inr (Or.inr (Or.inr ⟨hC, by omega, by omega, by omega, rfl, _, hsO, by (rw [hsp53_0] at hE; exact hE), rfl⟩)))⟩)
                  refine x_iload (dtk dt_X11_pairs 43 (84, .iload 7, 2) rfl) rfl ?_
                  refine x_if_ne (tgt := 105) (dtk dt_X11_pairs 44 (86, .ifCond .ne 19, 3) rfl) (by decide) (fun c86 => ?_) (fun c86 => ?_)
                  · skip
                    refine MW.sub [3, 4, 5, 6, 7, 2, 1, 0] rfl ?_
                    exact J105_18 _ (by first | (unfold whW; rw [if_neg (by omega), if_neg (by omega), if_pos (by omega)]; done) | (unfold whW; by_cases hz1 : M 42 s = -1; (rw [if_pos hz1, if_pos hz1]); (rw [if_neg hz1, if_neg hz1]; by_cases hz2 : M 42 s = so; (rw [if_pos hz2, if_neg (fun h => h hz2)]; first | rw [if_neg (by omega)] | (exfalso; rw [if_neg hz1, if_pos hz2] at c86; exact c86 rfl)); (rw [if_neg hz2, if_pos hz2]))))
                  · skip
                    have hz1 : ¬ M 42 s = -1 := fun h => by (rw [if_pos h] at c86; exact c86 (by decide))
                    have hz2 : M 42 s = so := by (by_cases h : M 42 s = so; exact h; (exfalso; rw [if_neg hz1, if_neg h] at c86; exact c86 (by decide)))
                    refine x_iconst (v := 2) ⟨by decide, by decide⟩ (dtk dt_X11_pairs 45 (89, .iconst 2, 1) rfl) ?_
                    refine x_iload (dtk dt_X11_pairs 46 (90, .iload 4, 2) rfl) rfl ?_
                    refine y_imul (dtk dt_X11_pairs 47 (92, .imul, 1) rfl) ⟨by omega, by omega⟩ ?_
                    refine x_aload (dtk dt_X11_pairs 48 (93, .aload 6, 2) rfl) rfl ?_
                    refine fg_X11_317 rfl (dtk dt_X11_pairs 49 (95, .getfield 317, 3) rfl) hs.1 hsL.1.2 ?_
                    refine x_icmp_le (tgt := 105) (dtk dt_X11_pairs 50 (98, .if_icmp .le 7, 3) rfl) (by decide) (fun c98 => ?_) (fun c98 => ?_)
                    · skip
                      refine MW.sub [3, 4, 5, 6, 7, 2, 1, 0] rfl ?_
                      exact J105_18 _ (by first | (unfold whW; rw [if_neg (by omega), if_neg (by omega), if_pos (by omega)]; done) | (unfold whW; by_cases hz1 : M 42 s = -1; (rw [if_pos hz1, if_pos hz1]); (rw [if_neg hz1, if_neg hz1]; by_cases hz2 : M 42 s = so; (rw [if_pos hz2, if_neg (fun h => h hz2)]; first | rw [if_neg (by omega)] | (exfalso; rw [if_neg hz1, if_pos hz2] at c86; exact c86 rfl)); (rw [if_neg hz2, if_pos hz2]))))
                    · skip
                      refine x_bipush (v := 12) ⟨by decide, by decide⟩ (dtk dt_X11_pairs 51 (101, .bipush 12, 2) rfl) ?_
                      refine x_istore (dtk dt_X11_pairs 52 (103, .istore 7, 2) rfl) (by decide) ?_
                      refine MW.sub [3, 4, 5, 6, 7, 2, 1, 0] rfl ?_
                      exact J105_18 _ (by first | (unfold whW; rw [if_neg (by omega), if_neg (by omega), if_pos (by omega)]; done) | (unfold whW; by_cases hz1 : M 42 s = -1; (rw [if_pos hz1, if_pos hz1]); (rw [if_neg hz1, if_neg hz1]; by_cases hz2 : M 42 s = so; (rw [if_pos hz2, if_neg (fun h => h hz2)]; first | rw [if_neg (by omega)] | (exfalso; rw [if_neg hz1, if_pos hz2] at c86; exact c86 rfl)); (rw [if_neg hz2, if_pos hz2]))))
                · skip
                  refine x_aload_n (dtk dt_X11_pairs 35 (70, .aload_n 0, 1) rfl) rfl ?_
                  refine x_iconst (v := 0) ⟨by decide, by decide⟩ (dtk dt_X11_pairs 36 (71, .iconst 0, 1) rfl) ?_
                  refine kc_X11_111 rfl (dtk dt_X11_pairs 37 (72, .invokevirtual 111, 3) rfl) (c_X11_answer (G := G)  hL.wf) rfl rfl (wk_0 hL.wf) (fitR (by decide) (by decide)) (Nat.le_of_ble_eq_true rfl) (pqK ?_)
                  exact x_iret (dtk dt_X11_pairs 38 (75, .ireturn, 1) rfl) rfl ⟨rfl, rfl, Or.inr (Or.inr (Or.inl ⟨hC, by omega, by omega, rfl, rfl⟩))⟩
              by_cases hsp53_1 : M 37 o = 1
              · skip
                refine kc_X11_94_X9 rfl (dtk dt_X11_pairs 27 (53, .invokevirtual 94, 3) rfl) (c_X9_kind (G := G) (p := M 1 o) ) rfl rfl (by rw [hO.k, hsp53_1]; rfl) (fitR (by decide) (by decide)) (Nat.le_of_ble_eq_true rfl) (pqK ?_)
                refine x_if_eq (tgt := 65) (dtk dt_X11_pairs 28 (56, .ifCond .eq 9, 3) rfl) (by decide) (fun c56 => ?_) (fun c56 => ?_)
                · exact absurd c56 (by decide)
                refine x_aload_n (dtk dt_X11_pairs 29 (59, .aload_n 0, 1) rfl) rfl ?_
                refine x_iconst (v := 3) ⟨by decide, by decide⟩ (dtk dt_X11_pairs 30 (60, .iconst 3, 1) rfl) ?_
                refine kc_X11_71 rfl (dtk dt_X11_pairs 31 (61, .invokevirtual 71, 3) rfl) (c_X11_refuse (G := G)  hL.wf) rfl rfl (wk_0 hL.wf) (fitR (by decide) (by decide)) (Nat.le_of_ble_eq_true rfl) (pqK ?_)
                exact x_iret (dtk dt_X11_pairs 32 (64, .ireturn, 1) rfl) rfl ⟨rfl, rfl, Or.inr (Or.inl ⟨hC, by omega, rfl, rfl⟩)⟩
              by_cases hsp53_2 : M 37 o = 2
              · skip
                refine kc_X11_94_X0 rfl (dtk dt_X11_pairs 27 (53, .invokevirtual 94, 3) rfl) (c_X0_kind (G := G) (p := M 1 o) ) rfl rfl (by rw [hO.k, hsp53_2]; rfl) (fitR (by decide) (by decide)) (Nat.le_of_ble_eq_true rfl) (pqK ?_)
                refine x_if_eq (tgt := 65) (dtk dt_X11_pairs 28 (56, .ifCond .eq 9, 3) rfl) (by decide) (fun c56 => ?_) (fun c56 => ?_)
                · exact absurd c56 (by decide)
                refine x_aload_n (dtk dt_X11_pairs 29 (59, .aload_n 0, 1) rfl) rfl ?_
                refine x_iconst (v := 3) ⟨by decide, by decide⟩ (dtk dt_X11_pairs 30 (60, .iconst 3, 1) rfl) ?_
                refine kc_X11_71 rfl (dtk dt_X11_pairs 31 (61, .invokevirtual 71, 3) rfl) (c_X11_refuse (G := G)  hL.wf) rfl rfl (wk_0 hL.wf) (fitR (by decide) (by decide)) (Nat.le_of_ble_eq_true rfl) (pqK ?_)
                exact x_iret (dtk dt_X11_pairs 32 (64, .ireturn, 1) rfl) rfl ⟨rfl, rfl, Or.inr (Or.inl ⟨hC, by omega, rfl, rfl⟩)⟩
              by_cases hsp53_3 : M 37 o = 3
              · skip
                refine kc_X11_94_X10 rfl (dtk dt_X11_pairs 27 (53, .invokevirtual 94, 3) rfl) (c_X10_kind (G := G) (p := M 1 o) ) rfl rfl (by rw [hO.k, hsp53_3]; rfl) (fitR (by decide) (by decide)) (Nat.le_of_ble_eq_true rfl) (pqK ?_)
                refine x_if_eq (tgt := 65) (dtk dt_X11_pairs 28 (56, .ifCond .eq 9, 3) rfl) (by decide) (fun c56 => ?_) (fun c56 => ?_)
                · exact absurd c56 (by decide)
                refine x_aload_n (dtk dt_X11_pairs 29 (59, .aload_n 0, 1) rfl) rfl ?_
                refine x_iconst (v := 3) ⟨by decide, by decide⟩ (dtk dt_X11_pairs 30 (60, .iconst 3, 1) rfl) ?_
                refine kc_X11_71 rfl (dtk dt_X11_pairs 31 (61, .invokevirtual 71, 3) rfl) (c_X11_refuse (G := G)  hL.wf) rfl rfl (wk_0 hL.wf) (fitR (by decide) (by decide)) (Nat.le_of_ble_eq_true rfl) (pqK ?_)
                exact x_iret (dtk dt_X11_pairs 32 (64, .ireturn, 1) rfl) rfl ⟨rfl, rfl, Or.inr (Or.inl ⟨hC, by omega, rfl, rfl⟩)⟩
              by_cases hsp53_4 : M 37 o = 4
              · skip
                refine kc_X11_94_X2 rfl (dtk dt_X11_pairs 27 (53, .invokevirtual 94, 3) rfl) (c_X2_kind (G := G) (p := M 1 o) ) rfl rfl (by rw [hO.k, hsp53_4]; rfl) (fitR (by decide) (by decide)) (Nat.le_of_ble_eq_true rfl) (pqK ?_)
                refine x_if_eq (tgt := 65) (dtk dt_X11_pairs 28 (56, .ifCond .eq 9, 3) rfl) (by decide) (fun c56 => ?_) (fun c56 => ?_)
                · exact absurd c56 (by decide)
                refine x_aload_n (dtk dt_X11_pairs 29 (59, .aload_n 0, 1) rfl) rfl ?_
                refine x_iconst (v := 3) ⟨by decide, by decide⟩ (dtk dt_X11_pairs 30 (60, .iconst 3, 1) rfl) ?_
                refine kc_X11_71 rfl (dtk dt_X11_pairs 31 (61, .invokevirtual 71, 3) rfl) (c_X11_refuse (G := G)  hL.wf) rfl rfl (wk_0 hL.wf) (fitR (by decide) (by decide)) (Nat.le_of_ble_eq_true rfl) (pqK ?_)
                exact x_iret (dtk dt_X11_pairs 32 (64, .ireturn, 1) rfl) rfl ⟨rfl, rfl, Or.inr (Or.inl ⟨hC, by omega, rfl, rfl⟩)⟩
              refine kc_X11_94_X5 rfl (dtk dt_X11_pairs 27 (53, .invokevirtual 94, 3) rfl) (c_X5_kind (G := G) (p := M 1 o) ) rfl rfl (by rw [hO.k, show M 37 o = 5 by omega]; rfl) (fitR (by decide) (by decide)) (Nat.le_of_ble_eq_true rfl) (pqK ?_)
              refine x_if_eq (tgt := 65) (dtk dt_X11_pairs 28 (56, .ifCond .eq 9, 3) rfl) (by decide) (fun c56 => ?_) (fun c56 => ?_)
              · exact absurd c56 (by decide)
              refine x_aload_n (dtk dt_X11_pairs 29 (59, .aload_n 0, 1) rfl) rfl ?_
              refine x_iconst (v := 3) ⟨by decide, by decide⟩ (dtk dt_X11_pairs 30 (60, .iconst 3, 1) rfl) ?_
              refine kc_X11_71 rfl (dtk dt_X11_pairs 31 (61, .invokevirtual 71, 3) rfl) (c_X11_refuse (G := G)  hL.wf) rfl rfl (wk_0 hL.wf) (fitR (by decide) (by decide)) (Nat.le_of_ble_eq_true rfl) (pqK ?_)
              exact x_iret (dtk dt_X11_pairs 32 (64, .ireturn, 1) rfl) rfl ⟨rfl, rfl, Or.inr (Or.inl ⟨hC, by omega, rfl, rfl⟩)⟩
            · skip
              refine x_aload_n (dtk dt_X11_pairs 22 (45, .aload_n 0, 1) rfl) rfl ?_
              refine x_iconst (v := 1) ⟨by decide, by decide⟩ (dtk dt_X11_pairs 23 (46, .iconst 1, 1) rfl) ?_
              refine kc_X11_71 rfl (dtk dt_X11_pairs 24 (47, .invokevirtual 71, 3) rfl) (c_X11_refuse (G := G)  hL.wf) rfl rfl (wk_0 hL.wf) (fitR (by decide) (by decide)) (Nat.le_of_ble_eq_true rfl) (pqK ?_)
              exact x_iret (dtk dt_X11_pairs 25 (50, .ireturn, 1) rfl) rfl ⟨rfl, rfl, Or.inl ⟨by (unfold prC; first | (rw [isOr_n hsp2_0]; rfl) | (rw [show (decide (0 ≤ s) && decide (s ≤ 3)) = false from by (simp; omega)]; simp; done) | (rw [show (decide (0 ≤ so) && decide (so ≤ 2)) = false from by (simp; omega)]; simp; done) | (rw [show (decide (0 ≤ q) && decide (q ≤ 10)) = false from by (simp; omega)]; simp)), rfl, rfl⟩⟩
    refine kc_X11_296 rfl (dtk dt_X11_pairs 6 (9, .invokevirtual 296, 3) rfl) (c_X11_findSheet_no (G := G)  hL.wf hsp9_0) rfl rfl (wk_0 hL.wf) (fitR (by decide) (by decide)) (Nat.le_of_ble_eq_true rfl) (pqK ?_)
    refine x_astore (dtk dt_X11_pairs 7 (12, .astore 6, 2) rfl) (by decide) ?_
    refine x_aload (dtk dt_X11_pairs 8 (14, .aload 5, 2) rfl) rfl ?_
    refine x_ifnull (tgt := 45) (dtk dt_X11_pairs 9 (16, .ifnull 29, 3) rfl) (by decide) (fun c16 => ?_) (fun c16 => ?_)
    · exact absurd c16 (by omega)
    refine x_aload (dtk dt_X11_pairs 10 (19, .aload 6, 2) rfl) rfl ?_
    refine x_ifnull (tgt := 45) (dtk dt_X11_pairs 11 (21, .ifnull 24, 3) rfl) (by decide) (fun c21 => ?_) (fun c21 => ?_)
    rotate_left
    · exact absurd c21 (by decide)
    refine x_aload_n (dtk dt_X11_pairs 22 (45, .aload_n 0, 1) rfl) rfl ?_
    refine x_iconst (v := 1) ⟨by decide, by decide⟩ (dtk dt_X11_pairs 23 (46, .iconst 1, 1) rfl) ?_
    refine kc_X11_71 rfl (dtk dt_X11_pairs 24 (47, .invokevirtual 71, 3) rfl) (c_X11_refuse (G := G)  hL.wf) rfl rfl (wk_0 hL.wf) (fitR (by decide) (by decide)) (Nat.le_of_ble_eq_true rfl) (pqK ?_)
    exact x_iret (dtk dt_X11_pairs 25 (50, .ireturn, 1) rfl) rfl ⟨rfl, rfl, Or.inl ⟨by (unfold prC; first | (rw [isOr_n hsp2_0]; rfl) | (rw [show (decide (0 ≤ s) && decide (s ≤ 3)) = false from by (simp; omega)]; simp; done) | (rw [show (decide (0 ≤ so) && decide (so ≤ 2)) = false from by (simp; omega)]; simp; done) | (rw [show (decide (0 ≤ q) && decide (q ≤ 10)) = false from by (simp; omega)]; simp)), rfl, rfl⟩⟩
  refine kc_X11_86 rfl (dtk dt_X11_pairs 2 (2, .invokevirtual 86, 3) rfl) (c_X11_find_no (G := G)  hL.wf (by rw [hL.cnt]; exact hsp2_0)) rfl rfl (wk_0 hL.wf) (fitR (by decide) (by decide)) (Nat.le_of_ble_eq_true rfl) (pqK ?_)
  have hOn := isOr_n hsp2_0
  refine x_astore (dtk dt_X11_pairs 3 (5, .astore 5, 2) rfl) (by decide) ?_
  refine x_aload_n (dtk dt_X11_pairs 4 (7, .aload_n 0, 1) rfl) rfl ?_
  refine x_iload_n (dtk dt_X11_pairs 5 (8, .iload_n 2, 1) rfl) rfl ?_
  by_cases hsp9_0 : 0 ≤ s ∧ s < 4
  · skip
    refine kc_X11_296 rfl (dtk dt_X11_pairs 6 (9, .invokevirtual 296, 3) rfl) (c_X11_findSheet (G := G)  hL.wf hsp9_0) rfl rfl (wk_0 hL.wf) (fitR (by decide) (by decide)) (Nat.le_of_ble_eq_true rfl) (pqK ?_)
    have hs := (sf_at hL.wf hsp9_0).1
    have hsL := hL.ls s hsp9_0.1 hsp9_0.2
    have hsz : 0 ≤ M (28 + 2 * s) 2 ∧ M (28 + 2 * s) 2 ≤ 20 := by (rw [hsL.1.2]; exact hsL.2.2.1)
    refine x_astore (dtk dt_X11_pairs 7 (12, .astore 6, 2) rfl) (by decide) ?_
    refine x_aload (dtk dt_X11_pairs 8 (14, .aload 5, 2) rfl) rfl ?_
    refine x_ifnull (tgt := 45) (dtk dt_X11_pairs 9 (16, .ifnull 29, 3) rfl) (by decide) (fun c16 => ?_) (fun c16 => ?_)
    rotate_left
    · exact absurd c16 (by decide)
    refine x_aload_n (dtk dt_X11_pairs 22 (45, .aload_n 0, 1) rfl) rfl ?_
    refine x_iconst (v := 1) ⟨by decide, by decide⟩ (dtk dt_X11_pairs 23 (46, .iconst 1, 1) rfl) ?_
    refine kc_X11_71 rfl (dtk dt_X11_pairs 24 (47, .invokevirtual 71, 3) rfl) (c_X11_refuse (G := G)  hL.wf) rfl rfl (wk_0 hL.wf) (fitR (by decide) (by decide)) (Nat.le_of_ble_eq_true rfl) (pqK ?_)
    exact x_iret (dtk dt_X11_pairs 25 (50, .ireturn, 1) rfl) rfl ⟨rfl, rfl, Or.inl ⟨by (unfold prC; first | (rw [isOr_n hsp2_0]; rfl) | (rw [show (decide (0 ≤ s) && decide (s ≤ 3)) = false from by (simp; omega)]; simp; done) | (rw [show (decide (0 ≤ so) && decide (so ≤ 2)) = false from by (simp; omega)]; simp; done) | (rw [show (decide (0 ≤ q) && decide (q ≤ 10)) = false from by (simp; omega)]; simp)), rfl, rfl⟩⟩
  refine kc_X11_296 rfl (dtk dt_X11_pairs 6 (9, .invokevirtual 296, 3) rfl) (c_X11_findSheet_no (G := G)  hL.wf hsp9_0) rfl rfl (wk_0 hL.wf) (fitR (by decide) (by decide)) (Nat.le_of_ble_eq_true rfl) (pqK ?_)
  refine x_astore (dtk dt_X11_pairs 7 (12, .astore 6, 2) rfl) (by decide) ?_
  refine x_aload (dtk dt_X11_pairs 8 (14, .aload 5, 2) rfl) rfl ?_
  refine x_ifnull (tgt := 45) (dtk dt_X11_pairs 9 (16, .ifnull 29, 3) rfl) (by decide) (fun c16 => ?_) (fun c16 => ?_)
  rotate_left
  · exact absurd c16 (by decide)
  refine x_aload_n (dtk dt_X11_pairs 22 (45, .aload_n 0, 1) rfl) rfl ?_
  refine x_iconst (v := 1) ⟨by decide, by decide⟩ (dtk dt_X11_pairs 23 (46, .iconst 1, 1) rfl) ?_
  refine kc_X11_71 rfl (dtk dt_X11_pairs 24 (47, .invokevirtual 71, 3) rfl) (c_X11_refuse (G := G)  hL.wf) rfl rfl (wk_0 hL.wf) (fitR (by decide) (by decide)) (Nat.le_of_ble_eq_true rfl) (pqK ?_)
  exact x_iret (dtk dt_X11_pairs 25 (50, .ireturn, 1) rfl) rfl ⟨rfl, rfl, Or.inl ⟨by (unfold prC; first | (rw [isOr_n hsp2_0]; rfl) | (rw [show (decide (0 ≤ s) && decide (s ≤ 3)) = false from by (simp; omega)]; simp; done) | (rw [show (decide (0 ≤ so) && decide (so ≤ 2)) = false from by (simp; omega)]; simp; done) | (rw [show (decide (0 ≤ q) && decide (q ≤ 10)) = false from by (simp; omega)]; simp)), rfl, rfl⟩⟩
set_option maxRecDepth 100000 in
set_option maxHeartbeats 1000000 in
theorem c_X11_isOfKind_0 {G : GG} {n : Nat} {K : KK} {M : MM} {p k : Int} (hk : K p = (0, 4)) (hq : 0 ≤ k ∧ k ≤ 5) : MC G mi_X11_isOfKind 1 0 0 [(1, p), (0, k)] n K M (PQ (some (0, B (kOf 0 k))) n K (M)) := by
  refine MC.intro (lc := [(0, (1, p)), (1, (0, k))]) (by decide) rfl (by simp [Nat.ble]) (Nat.le_of_ble_eq_true rfl) rfl (fun hMR => ?_)
  refine x_iload_n (dtk dt_X11_isOfKind 0 (0, .iload_n 1, 1) rfl) rfl ?_
  by_cases s1_0 : k = 0
  · skip
    refine x_tsIn (tgt := 40) (off := 39) (dtk dt_X11_isOfKind 1 (1, .tableswitch 66 0 5 #[39, 41, 46, 51, 56, 61], 39) rfl) (by omega) (by omega) (by rw [s1_0]; rfl) (by decide) ?_
    refine x_iconst (v := 1) ⟨by decide, by decide⟩ (dtk dt_X11_isOfKind 2 (40, .iconst 1, 1) rfl) ?_
    exact r_b (b := true) (dtk dt_X11_isOfKind 3 (41, .ireturn, 1) rfl) rfl (by first | (subst_vars; decide) | (rename_i h; rw [h]; decide) | (simp_all [kOf]; done) | (exfalso; omega)) rfl
  by_cases s1_1 : k = 1
  · skip
    refine x_tsIn (tgt := 42) (off := 41) (dtk dt_X11_isOfKind 1 (1, .tableswitch 66 0 5 #[39, 41, 46, 51, 56, 61], 39) rfl) (by omega) (by omega) (by rw [s1_1]; rfl) (by decide) ?_
    refine x_aload_n (dtk dt_X11_isOfKind 4 (42, .aload_n 0, 1) rfl) rfl ?_
    refine x_instNo (dtk dt_X11_isOfKind 5 (43, .instanceof 120, 3) rfl) hk cl_4 w448 (by decide) ?_
    exact r_b (b := false) (dtk dt_X11_isOfKind 6 (46, .ireturn, 1) rfl) rfl (by first | (subst_vars; decide) | (rename_i h; rw [h]; decide) | (simp_all [kOf]; done) | (exfalso; omega)) rfl
  by_cases s1_2 : k = 2
  · skip
    refine x_tsIn (tgt := 47) (off := 46) (dtk dt_X11_isOfKind 1 (1, .tableswitch 66 0 5 #[39, 41, 46, 51, 56, 61], 39) rfl) (by omega) (by omega) (by rw [s1_2]; rfl) (by decide) ?_
    refine x_aload_n (dtk dt_X11_isOfKind 7 (47, .aload_n 0, 1) rfl) rfl ?_
    refine x_instNo (dtk dt_X11_isOfKind 8 (48, .instanceof 130, 3) rfl) hk cl_4 w475 (by decide) ?_
    exact r_b (b := false) (dtk dt_X11_isOfKind 9 (51, .ireturn, 1) rfl) rfl (by first | (subst_vars; decide) | (rename_i h; rw [h]; decide) | (simp_all [kOf]; done) | (exfalso; omega)) rfl
  by_cases s1_3 : k = 3
  · skip
    refine x_tsIn (tgt := 52) (off := 51) (dtk dt_X11_isOfKind 1 (1, .tableswitch 66 0 5 #[39, 41, 46, 51, 56, 61], 39) rfl) (by omega) (by omega) (by rw [s1_3]; rfl) (by decide) ?_
    refine x_aload_n (dtk dt_X11_isOfKind 10 (52, .aload_n 0, 1) rfl) rfl ?_
    refine x_instNo (dtk dt_X11_isOfKind 11 (53, .instanceof 133, 3) rfl) hk cl_4 w491 (by decide) ?_
    exact r_b (b := false) (dtk dt_X11_isOfKind 12 (56, .ireturn, 1) rfl) rfl (by first | (subst_vars; decide) | (rename_i h; rw [h]; decide) | (simp_all [kOf]; done) | (exfalso; omega)) rfl
  by_cases s1_4 : k = 4
  · skip
    refine x_tsIn (tgt := 57) (off := 56) (dtk dt_X11_isOfKind 1 (1, .tableswitch 66 0 5 #[39, 41, 46, 51, 56, 61], 39) rfl) (by omega) (by omega) (by rw [s1_4]; rfl) (by decide) ?_
    refine x_aload_n (dtk dt_X11_isOfKind 13 (57, .aload_n 0, 1) rfl) rfl ?_
    refine x_instNo (dtk dt_X11_isOfKind 14 (58, .instanceof 147, 3) rfl) hk cl_4 w545 (by decide) ?_
    exact r_b (b := false) (dtk dt_X11_isOfKind 15 (61, .ireturn, 1) rfl) rfl (by first | (subst_vars; decide) | (rename_i h; rw [h]; decide) | (simp_all [kOf]; done) | (exfalso; omega)) rfl
  by_cases s1_5 : k = 5
  · skip
    refine x_tsIn (tgt := 62) (off := 61) (dtk dt_X11_isOfKind 1 (1, .tableswitch 66 0 5 #[39, 41, 46, 51, 56, 61], 39) rfl) (by omega) (by omega) (by rw [s1_5]; rfl) (by decide) ?_
    refine x_aload_n (dtk dt_X11_isOfKind 16 (62, .aload_n 0, 1) rfl) rfl ?_
    refine x_instNo (dtk dt_X11_isOfKind 17 (63, .instanceof 150, 3) rfl) hk cl_4 w561 (by decide) ?_
    exact r_b (b := false) (dtk dt_X11_isOfKind 18 (66, .ireturn, 1) rfl) rfl (by first | (subst_vars; decide) | (rename_i h; rw [h]; decide) | (simp_all [kOf]; done) | (exfalso; omega)) rfl
  refine x_tsOut (tgt := 67) (dtk dt_X11_isOfKind 1 (1, .tableswitch 66 0 5 #[39, 41, 46, 51, 56, 61], 39) rfl) (by omega) (by decide) ?_
  refine x_iconst (v := 0) ⟨by decide, by decide⟩ (dtk dt_X11_isOfKind 19 (67, .iconst 0, 1) rfl) ?_
  exact r_b (b := false) (dtk dt_X11_isOfKind 20 (68, .ireturn, 1) rfl) rfl (by first | (subst_vars; decide) | (rename_i h; rw [h]; decide) | (simp_all [kOf]; done) | (exfalso; omega)) rfl
set_option maxRecDepth 100000 in
set_option maxHeartbeats 1000000 in
theorem c_X11_isOfKind_1 {G : GG} {n : Nat} {K : KK} {M : MM} {p k : Int} (hk : K p = (0, 9)) (hq : 0 ≤ k ∧ k ≤ 5) : MC G mi_X11_isOfKind 1 0 0 [(1, p), (0, k)] n K M (PQ (some (0, B (kOf 1 k))) n K (M)) := by
  refine MC.intro (lc := [(0, (1, p)), (1, (0, k))]) (by decide) rfl (by simp [Nat.ble]) (Nat.le_of_ble_eq_true rfl) rfl (fun hMR => ?_)
  refine x_iload_n (dtk dt_X11_isOfKind 0 (0, .iload_n 1, 1) rfl) rfl ?_
  by_cases s1_0 : k = 0
  · skip
    refine x_tsIn (tgt := 40) (off := 39) (dtk dt_X11_isOfKind 1 (1, .tableswitch 66 0 5 #[39, 41, 46, 51, 56, 61], 39) rfl) (by omega) (by omega) (by rw [s1_0]; rfl) (by decide) ?_
    refine x_iconst (v := 1) ⟨by decide, by decide⟩ (dtk dt_X11_isOfKind 2 (40, .iconst 1, 1) rfl) ?_
    exact r_b (b := true) (dtk dt_X11_isOfKind 3 (41, .ireturn, 1) rfl) rfl (by first | (subst_vars; decide) | (rename_i h; rw [h]; decide) | (simp_all [kOf]; done) | (exfalso; omega)) rfl
  by_cases s1_1 : k = 1
  · skip
    refine x_tsIn (tgt := 42) (off := 41) (dtk dt_X11_isOfKind 1 (1, .tableswitch 66 0 5 #[39, 41, 46, 51, 56, 61], 39) rfl) (by omega) (by omega) (by rw [s1_1]; rfl) (by decide) ?_
    refine x_aload_n (dtk dt_X11_isOfKind 4 (42, .aload_n 0, 1) rfl) rfl ?_
    refine x_instY (dtk dt_X11_isOfKind 5 (43, .instanceof 120, 3) rfl) hk cl_9 w448 (by decide) ?_
    exact r_b (b := true) (dtk dt_X11_isOfKind 6 (46, .ireturn, 1) rfl) rfl (by first | (subst_vars; decide) | (rename_i h; rw [h]; decide) | (simp_all [kOf]; done) | (exfalso; omega)) rfl
  by_cases s1_2 : k = 2
  · skip
    refine x_tsIn (tgt := 47) (off := 46) (dtk dt_X11_isOfKind 1 (1, .tableswitch 66 0 5 #[39, 41, 46, 51, 56, 61], 39) rfl) (by omega) (by omega) (by rw [s1_2]; rfl) (by decide) ?_
    refine x_aload_n (dtk dt_X11_isOfKind 7 (47, .aload_n 0, 1) rfl) rfl ?_
    refine x_instNo (dtk dt_X11_isOfKind 8 (48, .instanceof 130, 3) rfl) hk cl_9 w475 (by decide) ?_
    exact r_b (b := false) (dtk dt_X11_isOfKind 9 (51, .ireturn, 1) rfl) rfl (by first | (subst_vars; decide) | (rename_i h; rw [h]; decide) | (simp_all [kOf]; done) | (exfalso; omega)) rfl
  by_cases s1_3 : k = 3
  · skip
    refine x_tsIn (tgt := 52) (off := 51) (dtk dt_X11_isOfKind 1 (1, .tableswitch 66 0 5 #[39, 41, 46, 51, 56, 61], 39) rfl) (by omega) (by omega) (by rw [s1_3]; rfl) (by decide) ?_
    refine x_aload_n (dtk dt_X11_isOfKind 10 (52, .aload_n 0, 1) rfl) rfl ?_
    refine x_instNo (dtk dt_X11_isOfKind 11 (53, .instanceof 133, 3) rfl) hk cl_9 w491 (by decide) ?_
    exact r_b (b := false) (dtk dt_X11_isOfKind 12 (56, .ireturn, 1) rfl) rfl (by first | (subst_vars; decide) | (rename_i h; rw [h]; decide) | (simp_all [kOf]; done) | (exfalso; omega)) rfl
  by_cases s1_4 : k = 4
  · skip
    refine x_tsIn (tgt := 57) (off := 56) (dtk dt_X11_isOfKind 1 (1, .tableswitch 66 0 5 #[39, 41, 46, 51, 56, 61], 39) rfl) (by omega) (by omega) (by rw [s1_4]; rfl) (by decide) ?_
    refine x_aload_n (dtk dt_X11_isOfKind 13 (57, .aload_n 0, 1) rfl) rfl ?_
    refine x_instNo (dtk dt_X11_isOfKind 14 (58, .instanceof 147, 3) rfl) hk cl_9 w545 (by decide) ?_
    exact r_b (b := false) (dtk dt_X11_isOfKind 15 (61, .ireturn, 1) rfl) rfl (by first | (subst_vars; decide) | (rename_i h; rw [h]; decide) | (simp_all [kOf]; done) | (exfalso; omega)) rfl
  by_cases s1_5 : k = 5
  · skip
    refine x_tsIn (tgt := 62) (off := 61) (dtk dt_X11_isOfKind 1 (1, .tableswitch 66 0 5 #[39, 41, 46, 51, 56, 61], 39) rfl) (by omega) (by omega) (by rw [s1_5]; rfl) (by decide) ?_
    refine x_aload_n (dtk dt_X11_isOfKind 16 (62, .aload_n 0, 1) rfl) rfl ?_
    refine x_instNo (dtk dt_X11_isOfKind 17 (63, .instanceof 150, 3) rfl) hk cl_9 w561 (by decide) ?_
    exact r_b (b := false) (dtk dt_X11_isOfKind 18 (66, .ireturn, 1) rfl) rfl (by first | (subst_vars; decide) | (rename_i h; rw [h]; decide) | (simp_all [kOf]; done) | (exfalso; omega)) rfl
  refine x_tsOut (tgt := 67) (dtk dt_X11_isOfKind 1 (1, .tableswitch 66 0 5 #[39, 41, 46, 51, 56, 61], 39) rfl) (by omega) (by decide) ?_
  refine x_iconst (v := 0) ⟨by decide, by decide⟩ (dtk dt_X11_isOfKind 19 (67, .iconst 0, 1) rfl) ?_
  exact r_b (b := false) (dtk dt_X11_isOfKind 20 (68, .ireturn, 1) rfl) rfl (by first | (subst_vars; decide) | (rename_i h; rw [h]; decide) | (simp_all [kOf]; done) | (exfalso; omega)) rfl
set_option maxRecDepth 100000 in
set_option maxHeartbeats 1000000 in
theorem c_X11_isOfKind_2 {G : GG} {n : Nat} {K : KK} {M : MM} {p k : Int} (hk : K p = (0, 0)) (hq : 0 ≤ k ∧ k ≤ 5) : MC G mi_X11_isOfKind 1 0 0 [(1, p), (0, k)] n K M (PQ (some (0, B (kOf 2 k))) n K (M)) := by
  refine MC.intro (lc := [(0, (1, p)), (1, (0, k))]) (by decide) rfl (by simp [Nat.ble]) (Nat.le_of_ble_eq_true rfl) rfl (fun hMR => ?_)
  refine x_iload_n (dtk dt_X11_isOfKind 0 (0, .iload_n 1, 1) rfl) rfl ?_
  by_cases s1_0 : k = 0
  · skip
    refine x_tsIn (tgt := 40) (off := 39) (dtk dt_X11_isOfKind 1 (1, .tableswitch 66 0 5 #[39, 41, 46, 51, 56, 61], 39) rfl) (by omega) (by omega) (by rw [s1_0]; rfl) (by decide) ?_
    refine x_iconst (v := 1) ⟨by decide, by decide⟩ (dtk dt_X11_isOfKind 2 (40, .iconst 1, 1) rfl) ?_
    exact r_b (b := true) (dtk dt_X11_isOfKind 3 (41, .ireturn, 1) rfl) rfl (by first | (subst_vars; decide) | (rename_i h; rw [h]; decide) | (simp_all [kOf]; done) | (exfalso; omega)) rfl
  by_cases s1_1 : k = 1
  · skip
    refine x_tsIn (tgt := 42) (off := 41) (dtk dt_X11_isOfKind 1 (1, .tableswitch 66 0 5 #[39, 41, 46, 51, 56, 61], 39) rfl) (by omega) (by omega) (by rw [s1_1]; rfl) (by decide) ?_
    refine x_aload_n (dtk dt_X11_isOfKind 4 (42, .aload_n 0, 1) rfl) rfl ?_
    refine x_instY (dtk dt_X11_isOfKind 5 (43, .instanceof 120, 3) rfl) hk cl_0 w448 (by decide) ?_
    exact r_b (b := true) (dtk dt_X11_isOfKind 6 (46, .ireturn, 1) rfl) rfl (by first | (subst_vars; decide) | (rename_i h; rw [h]; decide) | (simp_all [kOf]; done) | (exfalso; omega)) rfl
  by_cases s1_2 : k = 2
  · skip
    refine x_tsIn (tgt := 47) (off := 46) (dtk dt_X11_isOfKind 1 (1, .tableswitch 66 0 5 #[39, 41, 46, 51, 56, 61], 39) rfl) (by omega) (by omega) (by rw [s1_2]; rfl) (by decide) ?_
    refine x_aload_n (dtk dt_X11_isOfKind 7 (47, .aload_n 0, 1) rfl) rfl ?_
    refine x_instY (dtk dt_X11_isOfKind 8 (48, .instanceof 130, 3) rfl) hk cl_0 w475 (by decide) ?_
    exact r_b (b := true) (dtk dt_X11_isOfKind 9 (51, .ireturn, 1) rfl) rfl (by first | (subst_vars; decide) | (rename_i h; rw [h]; decide) | (simp_all [kOf]; done) | (exfalso; omega)) rfl
  by_cases s1_3 : k = 3
  · skip
    refine x_tsIn (tgt := 52) (off := 51) (dtk dt_X11_isOfKind 1 (1, .tableswitch 66 0 5 #[39, 41, 46, 51, 56, 61], 39) rfl) (by omega) (by omega) (by rw [s1_3]; rfl) (by decide) ?_
    refine x_aload_n (dtk dt_X11_isOfKind 10 (52, .aload_n 0, 1) rfl) rfl ?_
    refine x_instNo (dtk dt_X11_isOfKind 11 (53, .instanceof 133, 3) rfl) hk cl_0 w491 (by decide) ?_
    exact r_b (b := false) (dtk dt_X11_isOfKind 12 (56, .ireturn, 1) rfl) rfl (by first | (subst_vars; decide) | (rename_i h; rw [h]; decide) | (simp_all [kOf]; done) | (exfalso; omega)) rfl
  by_cases s1_4 : k = 4
  · skip
    refine x_tsIn (tgt := 57) (off := 56) (dtk dt_X11_isOfKind 1 (1, .tableswitch 66 0 5 #[39, 41, 46, 51, 56, 61], 39) rfl) (by omega) (by omega) (by rw [s1_4]; rfl) (by decide) ?_
    refine x_aload_n (dtk dt_X11_isOfKind 13 (57, .aload_n 0, 1) rfl) rfl ?_
    refine x_instNo (dtk dt_X11_isOfKind 14 (58, .instanceof 147, 3) rfl) hk cl_0 w545 (by decide) ?_
    exact r_b (b := false) (dtk dt_X11_isOfKind 15 (61, .ireturn, 1) rfl) rfl (by first | (subst_vars; decide) | (rename_i h; rw [h]; decide) | (simp_all [kOf]; done) | (exfalso; omega)) rfl
  by_cases s1_5 : k = 5
  · skip
    refine x_tsIn (tgt := 62) (off := 61) (dtk dt_X11_isOfKind 1 (1, .tableswitch 66 0 5 #[39, 41, 46, 51, 56, 61], 39) rfl) (by omega) (by omega) (by rw [s1_5]; rfl) (by decide) ?_
    refine x_aload_n (dtk dt_X11_isOfKind 16 (62, .aload_n 0, 1) rfl) rfl ?_
    refine x_instNo (dtk dt_X11_isOfKind 17 (63, .instanceof 150, 3) rfl) hk cl_0 w561 (by decide) ?_
    exact r_b (b := false) (dtk dt_X11_isOfKind 18 (66, .ireturn, 1) rfl) rfl (by first | (subst_vars; decide) | (rename_i h; rw [h]; decide) | (simp_all [kOf]; done) | (exfalso; omega)) rfl
  refine x_tsOut (tgt := 67) (dtk dt_X11_isOfKind 1 (1, .tableswitch 66 0 5 #[39, 41, 46, 51, 56, 61], 39) rfl) (by omega) (by decide) ?_
  refine x_iconst (v := 0) ⟨by decide, by decide⟩ (dtk dt_X11_isOfKind 19 (67, .iconst 0, 1) rfl) ?_
  exact r_b (b := false) (dtk dt_X11_isOfKind 20 (68, .ireturn, 1) rfl) rfl (by first | (subst_vars; decide) | (rename_i h; rw [h]; decide) | (simp_all [kOf]; done) | (exfalso; omega)) rfl
set_option maxRecDepth 100000 in
set_option maxHeartbeats 1000000 in
theorem c_X11_isOfKind_3 {G : GG} {n : Nat} {K : KK} {M : MM} {p k : Int} (hk : K p = (0, 10)) (hq : 0 ≤ k ∧ k ≤ 5) : MC G mi_X11_isOfKind 1 0 0 [(1, p), (0, k)] n K M (PQ (some (0, B (kOf 3 k))) n K (M)) := by
  refine MC.intro (lc := [(0, (1, p)), (1, (0, k))]) (by decide) rfl (by simp [Nat.ble]) (Nat.le_of_ble_eq_true rfl) rfl (fun hMR => ?_)
  refine x_iload_n (dtk dt_X11_isOfKind 0 (0, .iload_n 1, 1) rfl) rfl ?_
  by_cases s1_0 : k = 0
  · skip
    refine x_tsIn (tgt := 40) (off := 39) (dtk dt_X11_isOfKind 1 (1, .tableswitch 66 0 5 #[39, 41, 46, 51, 56, 61], 39) rfl) (by omega) (by omega) (by rw [s1_0]; rfl) (by decide) ?_
    refine x_iconst (v := 1) ⟨by decide, by decide⟩ (dtk dt_X11_isOfKind 2 (40, .iconst 1, 1) rfl) ?_
    exact r_b (b := true) (dtk dt_X11_isOfKind 3 (41, .ireturn, 1) rfl) rfl (by first | (subst_vars; decide) | (rename_i h; rw [h]; decide) | (simp_all [kOf]; done) | (exfalso; omega)) rfl
  by_cases s1_1 : k = 1
  · skip
    refine x_tsIn (tgt := 42) (off := 41) (dtk dt_X11_isOfKind 1 (1, .tableswitch 66 0 5 #[39, 41, 46, 51, 56, 61], 39) rfl) (by omega) (by omega) (by rw [s1_1]; rfl) (by decide) ?_
    refine x_aload_n (dtk dt_X11_isOfKind 4 (42, .aload_n 0, 1) rfl) rfl ?_
    refine x_instY (dtk dt_X11_isOfKind 5 (43, .instanceof 120, 3) rfl) hk cl_10 w448 (by decide) ?_
    exact r_b (b := true) (dtk dt_X11_isOfKind 6 (46, .ireturn, 1) rfl) rfl (by first | (subst_vars; decide) | (rename_i h; rw [h]; decide) | (simp_all [kOf]; done) | (exfalso; omega)) rfl
  by_cases s1_2 : k = 2
  · skip
    refine x_tsIn (tgt := 47) (off := 46) (dtk dt_X11_isOfKind 1 (1, .tableswitch 66 0 5 #[39, 41, 46, 51, 56, 61], 39) rfl) (by omega) (by omega) (by rw [s1_2]; rfl) (by decide) ?_
    refine x_aload_n (dtk dt_X11_isOfKind 7 (47, .aload_n 0, 1) rfl) rfl ?_
    refine x_instY (dtk dt_X11_isOfKind 8 (48, .instanceof 130, 3) rfl) hk cl_10 w475 (by decide) ?_
    exact r_b (b := true) (dtk dt_X11_isOfKind 9 (51, .ireturn, 1) rfl) rfl (by first | (subst_vars; decide) | (rename_i h; rw [h]; decide) | (simp_all [kOf]; done) | (exfalso; omega)) rfl
  by_cases s1_3 : k = 3
  · skip
    refine x_tsIn (tgt := 52) (off := 51) (dtk dt_X11_isOfKind 1 (1, .tableswitch 66 0 5 #[39, 41, 46, 51, 56, 61], 39) rfl) (by omega) (by omega) (by rw [s1_3]; rfl) (by decide) ?_
    refine x_aload_n (dtk dt_X11_isOfKind 10 (52, .aload_n 0, 1) rfl) rfl ?_
    refine x_instY (dtk dt_X11_isOfKind 11 (53, .instanceof 133, 3) rfl) hk cl_10 w491 (by decide) ?_
    exact r_b (b := true) (dtk dt_X11_isOfKind 12 (56, .ireturn, 1) rfl) rfl (by first | (subst_vars; decide) | (rename_i h; rw [h]; decide) | (simp_all [kOf]; done) | (exfalso; omega)) rfl
  by_cases s1_4 : k = 4
  · skip
    refine x_tsIn (tgt := 57) (off := 56) (dtk dt_X11_isOfKind 1 (1, .tableswitch 66 0 5 #[39, 41, 46, 51, 56, 61], 39) rfl) (by omega) (by omega) (by rw [s1_4]; rfl) (by decide) ?_
    refine x_aload_n (dtk dt_X11_isOfKind 13 (57, .aload_n 0, 1) rfl) rfl ?_
    refine x_instNo (dtk dt_X11_isOfKind 14 (58, .instanceof 147, 3) rfl) hk cl_10 w545 (by decide) ?_
    exact r_b (b := false) (dtk dt_X11_isOfKind 15 (61, .ireturn, 1) rfl) rfl (by first | (subst_vars; decide) | (rename_i h; rw [h]; decide) | (simp_all [kOf]; done) | (exfalso; omega)) rfl
  by_cases s1_5 : k = 5
  · skip
    refine x_tsIn (tgt := 62) (off := 61) (dtk dt_X11_isOfKind 1 (1, .tableswitch 66 0 5 #[39, 41, 46, 51, 56, 61], 39) rfl) (by omega) (by omega) (by rw [s1_5]; rfl) (by decide) ?_
    refine x_aload_n (dtk dt_X11_isOfKind 16 (62, .aload_n 0, 1) rfl) rfl ?_
    refine x_instNo (dtk dt_X11_isOfKind 17 (63, .instanceof 150, 3) rfl) hk cl_10 w561 (by decide) ?_
    exact r_b (b := false) (dtk dt_X11_isOfKind 18 (66, .ireturn, 1) rfl) rfl (by first | (subst_vars; decide) | (rename_i h; rw [h]; decide) | (simp_all [kOf]; done) | (exfalso; omega)) rfl
  refine x_tsOut (tgt := 67) (dtk dt_X11_isOfKind 1 (1, .tableswitch 66 0 5 #[39, 41, 46, 51, 56, 61], 39) rfl) (by omega) (by decide) ?_
  refine x_iconst (v := 0) ⟨by decide, by decide⟩ (dtk dt_X11_isOfKind 19 (67, .iconst 0, 1) rfl) ?_
  exact r_b (b := false) (dtk dt_X11_isOfKind 20 (68, .ireturn, 1) rfl) rfl (by first | (subst_vars; decide) | (rename_i h; rw [h]; decide) | (simp_all [kOf]; done) | (exfalso; omega)) rfl
set_option maxRecDepth 100000 in
set_option maxHeartbeats 1000000 in
theorem c_X11_isOfKind_4 {G : GG} {n : Nat} {K : KK} {M : MM} {p k : Int} (hk : K p = (0, 2)) (hq : 0 ≤ k ∧ k ≤ 5) : MC G mi_X11_isOfKind 1 0 0 [(1, p), (0, k)] n K M (PQ (some (0, B (kOf 4 k))) n K (M)) := by
  refine MC.intro (lc := [(0, (1, p)), (1, (0, k))]) (by decide) rfl (by simp [Nat.ble]) (Nat.le_of_ble_eq_true rfl) rfl (fun hMR => ?_)
  refine x_iload_n (dtk dt_X11_isOfKind 0 (0, .iload_n 1, 1) rfl) rfl ?_
  by_cases s1_0 : k = 0
  · skip
    refine x_tsIn (tgt := 40) (off := 39) (dtk dt_X11_isOfKind 1 (1, .tableswitch 66 0 5 #[39, 41, 46, 51, 56, 61], 39) rfl) (by omega) (by omega) (by rw [s1_0]; rfl) (by decide) ?_
    refine x_iconst (v := 1) ⟨by decide, by decide⟩ (dtk dt_X11_isOfKind 2 (40, .iconst 1, 1) rfl) ?_
    exact r_b (b := true) (dtk dt_X11_isOfKind 3 (41, .ireturn, 1) rfl) rfl (by first | (subst_vars; decide) | (rename_i h; rw [h]; decide) | (simp_all [kOf]; done) | (exfalso; omega)) rfl
  by_cases s1_1 : k = 1
  · skip
    refine x_tsIn (tgt := 42) (off := 41) (dtk dt_X11_isOfKind 1 (1, .tableswitch 66 0 5 #[39, 41, 46, 51, 56, 61], 39) rfl) (by omega) (by omega) (by rw [s1_1]; rfl) (by decide) ?_
    refine x_aload_n (dtk dt_X11_isOfKind 4 (42, .aload_n 0, 1) rfl) rfl ?_
    refine x_instNo (dtk dt_X11_isOfKind 5 (43, .instanceof 120, 3) rfl) hk cl_2 w448 (by decide) ?_
    exact r_b (b := false) (dtk dt_X11_isOfKind 6 (46, .ireturn, 1) rfl) rfl (by first | (subst_vars; decide) | (rename_i h; rw [h]; decide) | (simp_all [kOf]; done) | (exfalso; omega)) rfl
  by_cases s1_2 : k = 2
  · skip
    refine x_tsIn (tgt := 47) (off := 46) (dtk dt_X11_isOfKind 1 (1, .tableswitch 66 0 5 #[39, 41, 46, 51, 56, 61], 39) rfl) (by omega) (by omega) (by rw [s1_2]; rfl) (by decide) ?_
    refine x_aload_n (dtk dt_X11_isOfKind 7 (47, .aload_n 0, 1) rfl) rfl ?_
    refine x_instNo (dtk dt_X11_isOfKind 8 (48, .instanceof 130, 3) rfl) hk cl_2 w475 (by decide) ?_
    exact r_b (b := false) (dtk dt_X11_isOfKind 9 (51, .ireturn, 1) rfl) rfl (by first | (subst_vars; decide) | (rename_i h; rw [h]; decide) | (simp_all [kOf]; done) | (exfalso; omega)) rfl
  by_cases s1_3 : k = 3
  · skip
    refine x_tsIn (tgt := 52) (off := 51) (dtk dt_X11_isOfKind 1 (1, .tableswitch 66 0 5 #[39, 41, 46, 51, 56, 61], 39) rfl) (by omega) (by omega) (by rw [s1_3]; rfl) (by decide) ?_
    refine x_aload_n (dtk dt_X11_isOfKind 10 (52, .aload_n 0, 1) rfl) rfl ?_
    refine x_instNo (dtk dt_X11_isOfKind 11 (53, .instanceof 133, 3) rfl) hk cl_2 w491 (by decide) ?_
    exact r_b (b := false) (dtk dt_X11_isOfKind 12 (56, .ireturn, 1) rfl) rfl (by first | (subst_vars; decide) | (rename_i h; rw [h]; decide) | (simp_all [kOf]; done) | (exfalso; omega)) rfl
  by_cases s1_4 : k = 4
  · skip
    refine x_tsIn (tgt := 57) (off := 56) (dtk dt_X11_isOfKind 1 (1, .tableswitch 66 0 5 #[39, 41, 46, 51, 56, 61], 39) rfl) (by omega) (by omega) (by rw [s1_4]; rfl) (by decide) ?_
    refine x_aload_n (dtk dt_X11_isOfKind 13 (57, .aload_n 0, 1) rfl) rfl ?_
    refine x_instY (dtk dt_X11_isOfKind 14 (58, .instanceof 147, 3) rfl) hk cl_2 w545 (by decide) ?_
    exact r_b (b := true) (dtk dt_X11_isOfKind 15 (61, .ireturn, 1) rfl) rfl (by first | (subst_vars; decide) | (rename_i h; rw [h]; decide) | (simp_all [kOf]; done) | (exfalso; omega)) rfl
  by_cases s1_5 : k = 5
  · skip
    refine x_tsIn (tgt := 62) (off := 61) (dtk dt_X11_isOfKind 1 (1, .tableswitch 66 0 5 #[39, 41, 46, 51, 56, 61], 39) rfl) (by omega) (by omega) (by rw [s1_5]; rfl) (by decide) ?_
    refine x_aload_n (dtk dt_X11_isOfKind 16 (62, .aload_n 0, 1) rfl) rfl ?_
    refine x_instNo (dtk dt_X11_isOfKind 17 (63, .instanceof 150, 3) rfl) hk cl_2 w561 (by decide) ?_
    exact r_b (b := false) (dtk dt_X11_isOfKind 18 (66, .ireturn, 1) rfl) rfl (by first | (subst_vars; decide) | (rename_i h; rw [h]; decide) | (simp_all [kOf]; done) | (exfalso; omega)) rfl
  refine x_tsOut (tgt := 67) (dtk dt_X11_isOfKind 1 (1, .tableswitch 66 0 5 #[39, 41, 46, 51, 56, 61], 39) rfl) (by omega) (by decide) ?_
  refine x_iconst (v := 0) ⟨by decide, by decide⟩ (dtk dt_X11_isOfKind 19 (67, .iconst 0, 1) rfl) ?_
  exact r_b (b := false) (dtk dt_X11_isOfKind 20 (68, .ireturn, 1) rfl) rfl (by first | (subst_vars; decide) | (rename_i h; rw [h]; decide) | (simp_all [kOf]; done) | (exfalso; omega)) rfl
set_option maxRecDepth 100000 in
set_option maxHeartbeats 1000000 in
theorem c_X11_isOfKind_5 {G : GG} {n : Nat} {K : KK} {M : MM} {p k : Int} (hk : K p = (0, 5)) (hq : 0 ≤ k ∧ k ≤ 5) : MC G mi_X11_isOfKind 1 0 0 [(1, p), (0, k)] n K M (PQ (some (0, B (kOf 5 k))) n K (M)) := by
  refine MC.intro (lc := [(0, (1, p)), (1, (0, k))]) (by decide) rfl (by simp [Nat.ble]) (Nat.le_of_ble_eq_true rfl) rfl (fun hMR => ?_)
  refine x_iload_n (dtk dt_X11_isOfKind 0 (0, .iload_n 1, 1) rfl) rfl ?_
  by_cases s1_0 : k = 0
  · skip
    refine x_tsIn (tgt := 40) (off := 39) (dtk dt_X11_isOfKind 1 (1, .tableswitch 66 0 5 #[39, 41, 46, 51, 56, 61], 39) rfl) (by omega) (by omega) (by rw [s1_0]; rfl) (by decide) ?_
    refine x_iconst (v := 1) ⟨by decide, by decide⟩ (dtk dt_X11_isOfKind 2 (40, .iconst 1, 1) rfl) ?_
    exact r_b (b := true) (dtk dt_X11_isOfKind 3 (41, .ireturn, 1) rfl) rfl (by first | (subst_vars; decide) | (rename_i h; rw [h]; decide) | (simp_all [kOf]; done) | (exfalso; omega)) rfl
  by_cases s1_1 : k = 1
  · skip
    refine x_tsIn (tgt := 42) (off := 41) (dtk dt_X11_isOfKind 1 (1, .tableswitch 66 0 5 #[39, 41, 46, 51, 56, 61], 39) rfl) (by omega) (by omega) (by rw [s1_1]; rfl) (by decide) ?_
    refine x_aload_n (dtk dt_X11_isOfKind 4 (42, .aload_n 0, 1) rfl) rfl ?_
    refine x_instY (dtk dt_X11_isOfKind 5 (43, .instanceof 120, 3) rfl) hk cl_5 w448 (by decide) ?_
    exact r_b (b := true) (dtk dt_X11_isOfKind 6 (46, .ireturn, 1) rfl) rfl (by first | (subst_vars; decide) | (rename_i h; rw [h]; decide) | (simp_all [kOf]; done) | (exfalso; omega)) rfl
  by_cases s1_2 : k = 2
  · skip
    refine x_tsIn (tgt := 47) (off := 46) (dtk dt_X11_isOfKind 1 (1, .tableswitch 66 0 5 #[39, 41, 46, 51, 56, 61], 39) rfl) (by omega) (by omega) (by rw [s1_2]; rfl) (by decide) ?_
    refine x_aload_n (dtk dt_X11_isOfKind 7 (47, .aload_n 0, 1) rfl) rfl ?_
    refine x_instNo (dtk dt_X11_isOfKind 8 (48, .instanceof 130, 3) rfl) hk cl_5 w475 (by decide) ?_
    exact r_b (b := false) (dtk dt_X11_isOfKind 9 (51, .ireturn, 1) rfl) rfl (by first | (subst_vars; decide) | (rename_i h; rw [h]; decide) | (simp_all [kOf]; done) | (exfalso; omega)) rfl
  by_cases s1_3 : k = 3
  · skip
    refine x_tsIn (tgt := 52) (off := 51) (dtk dt_X11_isOfKind 1 (1, .tableswitch 66 0 5 #[39, 41, 46, 51, 56, 61], 39) rfl) (by omega) (by omega) (by rw [s1_3]; rfl) (by decide) ?_
    refine x_aload_n (dtk dt_X11_isOfKind 10 (52, .aload_n 0, 1) rfl) rfl ?_
    refine x_instNo (dtk dt_X11_isOfKind 11 (53, .instanceof 133, 3) rfl) hk cl_5 w491 (by decide) ?_
    exact r_b (b := false) (dtk dt_X11_isOfKind 12 (56, .ireturn, 1) rfl) rfl (by first | (subst_vars; decide) | (rename_i h; rw [h]; decide) | (simp_all [kOf]; done) | (exfalso; omega)) rfl
  by_cases s1_4 : k = 4
  · skip
    refine x_tsIn (tgt := 57) (off := 56) (dtk dt_X11_isOfKind 1 (1, .tableswitch 66 0 5 #[39, 41, 46, 51, 56, 61], 39) rfl) (by omega) (by omega) (by rw [s1_4]; rfl) (by decide) ?_
    refine x_aload_n (dtk dt_X11_isOfKind 13 (57, .aload_n 0, 1) rfl) rfl ?_
    refine x_instNo (dtk dt_X11_isOfKind 14 (58, .instanceof 147, 3) rfl) hk cl_5 w545 (by decide) ?_
    exact r_b (b := false) (dtk dt_X11_isOfKind 15 (61, .ireturn, 1) rfl) rfl (by first | (subst_vars; decide) | (rename_i h; rw [h]; decide) | (simp_all [kOf]; done) | (exfalso; omega)) rfl
  by_cases s1_5 : k = 5
  · skip
    refine x_tsIn (tgt := 62) (off := 61) (dtk dt_X11_isOfKind 1 (1, .tableswitch 66 0 5 #[39, 41, 46, 51, 56, 61], 39) rfl) (by omega) (by omega) (by rw [s1_5]; rfl) (by decide) ?_
    refine x_aload_n (dtk dt_X11_isOfKind 16 (62, .aload_n 0, 1) rfl) rfl ?_
    refine x_instY (dtk dt_X11_isOfKind 17 (63, .instanceof 150, 3) rfl) hk cl_5 w561 (by decide) ?_
    exact r_b (b := true) (dtk dt_X11_isOfKind 18 (66, .ireturn, 1) rfl) rfl (by first | (subst_vars; decide) | (rename_i h; rw [h]; decide) | (simp_all [kOf]; done) | (exfalso; omega)) rfl
  refine x_tsOut (tgt := 67) (dtk dt_X11_isOfKind 1 (1, .tableswitch 66 0 5 #[39, 41, 46, 51, 56, 61], 39) rfl) (by omega) (by decide) ?_
  refine x_iconst (v := 0) ⟨by decide, by decide⟩ (dtk dt_X11_isOfKind 19 (67, .iconst 0, 1) rfl) ?_
  exact r_b (b := false) (dtk dt_X11_isOfKind 20 (68, .ireturn, 1) rfl) rfl (by first | (subst_vars; decide) | (rename_i h; rw [h]; decide) | (simp_all [kOf]; done) | (exfalso; omega)) rfl
set_option maxRecDepth 100000 in
set_option maxHeartbeats 1000000 in
theorem c_X11_takeForKind {G : GG} {n : Nat} {K : KK} {M : MM} {o k : Int} (hw : WF K M) (hO : OB K M (M 1 o) (kci (M 37 o)) o (M 38 o) (dM M o)) (hkd : 0 ≤ M 37 o ∧ M 37 o ≤ 5) (hk : 0 ≤ k ∧ k ≤ 5) : MC G mi_X11_takeForKind 2 0 0 [(1, 0), (1, M 1 o), (0, k)] n K M (PQ (some (0, if kOf (M 37 o) k then M 37 o else -1)) n K (st2 M 0 11 (if kOf (M 37 o) k then 0 else 11))) := by
  refine MC.intro (lc := [(0, (1, 0)), (1, (1, M 1 o)), (2, (0, k))]) (by decide) rfl (by simp [Nat.ble]) (Nat.le_of_ble_eq_true rfl) rfl (fun hMR => ?_)
  have hOg := hO.ge
  refine x_aload_n (dtk dt_X11_takeForKind 0 (0, .aload_n 1, 1) rfl) rfl ?_
  refine x_ifnonnull (tgt := 11) (dtk dt_X11_takeForKind 1 (1, .ifnonnull 10, 3) rfl) (by decide) (fun c1 => ?_) (fun c1 => ?_)
  rotate_left
  · exact absurd c1 (by omega)
  refine x_aload_n (dtk dt_X11_takeForKind 6 (11, .aload_n 1, 1) rfl) rfl ?_
  refine x_iload_n (dtk dt_X11_takeForKind 7 (12, .iload_n 2, 1) rfl) rfl ?_
  by_cases hsp13_0 : M 37 o = 0
  · skip
    refine kc_X11_343 rfl (dtk dt_X11_takeForKind 8 (13, .invokestatic 343, 3) rfl) (c_X11_isOfKind_0 (G := G) (p := M 1 o) (by rw [hO.k, hsp13_0]; rfl) (by omega)) rfl rfl (fitR (by decide) (by decide)) (Nat.le_of_ble_eq_true rfl) (pqK ?_)
    refine x_if_eqB (tgt := 30) (dtk dt_X11_takeForKind 9 (16, .ifCond .eq 14, 3) rfl) (by decide) (fun c16 => ?_) (fun c16 => ?_)
    · skip
      refine x_aload_n (dtk dt_X11_takeForKind 15 (30, .aload_n 0, 1) rfl) rfl ?_
      refine x_bipush (v := 11) ⟨by decide, by decide⟩ (dtk dt_X11_takeForKind 16 (31, .bipush 11, 2) rfl) ?_
      refine kc_X11_71 rfl (dtk dt_X11_takeForKind 17 (33, .invokevirtual 71, 3) rfl) (c_X11_refuse (G := G)  hw) rfl rfl (wk_0 hw) (fitR (by decide) (by decide)) (Nat.le_of_ble_eq_true rfl) (pqK ?_)
      exact r_i (dtk dt_X11_takeForKind 18 (36, .ireturn, 1) rfl) rfl (by have hkk : M 37 o = 0 ∨ M 37 o = 1 ∨ M 37 o = 2 ∨ M 37 o = 3 ∨ M 37 o = 4 ∨ M 37 o = 5 := (by omega); rcases hkk with h | h | h | h | h | h <;> rw [h] <;> first | (exfalso; omega) | (rw [c16]; rfl) | (exfalso; simp_all; done)) (by have hkk : M 37 o = 0 ∨ M 37 o = 1 ∨ M 37 o = 2 ∨ M 37 o = 3 ∨ M 37 o = 4 ∨ M 37 o = 5 := (by omega); rcases hkk with h | h | h | h | h | h <;> rw [h] <;> first | (exfalso; omega) | (rw [c16]; rfl) | (exfalso; simp_all; done))
    · skip
      refine x_aload_n (dtk dt_X11_takeForKind 10 (19, .aload_n 0, 1) rfl) rfl ?_
      refine x_aload_n (dtk dt_X11_takeForKind 11 (20, .aload_n 1, 1) rfl) rfl ?_
      by_cases hsp21_0 : M 37 o = 0
      · skip
        refine kc_X11_94_X4 rfl (dtk dt_X11_takeForKind 12 (21, .invokevirtual 94, 3) rfl) (c_X4_kind (G := G) (p := M 1 o) ) rfl rfl (by rw [hO.k, hsp21_0]; rfl) (fitR (by decide) (by decide)) (Nat.le_of_ble_eq_true rfl) (pqK ?_)
        refine kc_X11_111 rfl (dtk dt_X11_takeForKind 13 (24, .invokevirtual 111, 3) rfl) (c_X11_answer (G := G)  hw) rfl rfl (wk_0 hw) (fitR (by decide) (by decide)) (Nat.le_of_ble_eq_true rfl) (pqK ?_)
        refine x_goto (tgt := 36) (dtk dt_X11_takeForKind 14 (27, .goto 9, 3) rfl) (by decide) ?_
        exact r_i (dtk dt_X11_takeForKind 18 (36, .ireturn, 1) rfl) rfl (by have hkk : M 37 o = 0 ∨ M 37 o = 1 ∨ M 37 o = 2 ∨ M 37 o = 3 ∨ M 37 o = 4 ∨ M 37 o = 5 := (by omega); rcases hkk with h | h | h | h | h | h <;> rw [h] <;> first | (exfalso; omega) | (rw [c16]; rfl) | (exfalso; simp_all; done)) (by have hkk : M 37 o = 0 ∨ M 37 o = 1 ∨ M 37 o = 2 ∨ M 37 o = 3 ∨ M 37 o = 4 ∨ M 37 o = 5 := (by omega); rcases hkk with h | h | h | h | h | h <;> rw [h] <;> first | (exfalso; omega) | (rw [c16]; rfl) | (exfalso; simp_all; done))
      by_cases hsp21_1 : M 37 o = 1
      · skip
        refine kc_X11_94_X9 rfl (dtk dt_X11_takeForKind 12 (21, .invokevirtual 94, 3) rfl) (c_X9_kind (G := G) (p := M 1 o) ) rfl rfl (by rw [hO.k, hsp21_1]; rfl) (fitR (by decide) (by decide)) (Nat.le_of_ble_eq_true rfl) (pqK ?_)
        refine kc_X11_111 rfl (dtk dt_X11_takeForKind 13 (24, .invokevirtual 111, 3) rfl) (c_X11_answer (G := G)  hw) rfl rfl (wk_0 hw) (fitR (by decide) (by decide)) (Nat.le_of_ble_eq_true rfl) (pqK ?_)
        refine x_goto (tgt := 36) (dtk dt_X11_takeForKind 14 (27, .goto 9, 3) rfl) (by decide) ?_
        exact r_i (dtk dt_X11_takeForKind 18 (36, .ireturn, 1) rfl) rfl (by have hkk : M 37 o = 0 ∨ M 37 o = 1 ∨ M 37 o = 2 ∨ M 37 o = 3 ∨ M 37 o = 4 ∨ M 37 o = 5 := (by omega); rcases hkk with h | h | h | h | h | h <;> rw [h] <;> first | (exfalso; omega) | (rw [c16]; rfl) | (exfalso; simp_all; done)) (by have hkk : M 37 o = 0 ∨ M 37 o = 1 ∨ M 37 o = 2 ∨ M 37 o = 3 ∨ M 37 o = 4 ∨ M 37 o = 5 := (by omega); rcases hkk with h | h | h | h | h | h <;> rw [h] <;> first | (exfalso; omega) | (rw [c16]; rfl) | (exfalso; simp_all; done))
      by_cases hsp21_2 : M 37 o = 2
      · skip
        refine kc_X11_94_X0 rfl (dtk dt_X11_takeForKind 12 (21, .invokevirtual 94, 3) rfl) (c_X0_kind (G := G) (p := M 1 o) ) rfl rfl (by rw [hO.k, hsp21_2]; rfl) (fitR (by decide) (by decide)) (Nat.le_of_ble_eq_true rfl) (pqK ?_)
        refine kc_X11_111 rfl (dtk dt_X11_takeForKind 13 (24, .invokevirtual 111, 3) rfl) (c_X11_answer (G := G)  hw) rfl rfl (wk_0 hw) (fitR (by decide) (by decide)) (Nat.le_of_ble_eq_true rfl) (pqK ?_)
        refine x_goto (tgt := 36) (dtk dt_X11_takeForKind 14 (27, .goto 9, 3) rfl) (by decide) ?_
        exact r_i (dtk dt_X11_takeForKind 18 (36, .ireturn, 1) rfl) rfl (by have hkk : M 37 o = 0 ∨ M 37 o = 1 ∨ M 37 o = 2 ∨ M 37 o = 3 ∨ M 37 o = 4 ∨ M 37 o = 5 := (by omega); rcases hkk with h | h | h | h | h | h <;> rw [h] <;> first | (exfalso; omega) | (rw [c16]; rfl) | (exfalso; simp_all; done)) (by have hkk : M 37 o = 0 ∨ M 37 o = 1 ∨ M 37 o = 2 ∨ M 37 o = 3 ∨ M 37 o = 4 ∨ M 37 o = 5 := (by omega); rcases hkk with h | h | h | h | h | h <;> rw [h] <;> first | (exfalso; omega) | (rw [c16]; rfl) | (exfalso; simp_all; done))
      by_cases hsp21_3 : M 37 o = 3
      · skip
        refine kc_X11_94_X10 rfl (dtk dt_X11_takeForKind 12 (21, .invokevirtual 94, 3) rfl) (c_X10_kind (G := G) (p := M 1 o) ) rfl rfl (by rw [hO.k, hsp21_3]; rfl) (fitR (by decide) (by decide)) (Nat.le_of_ble_eq_true rfl) (pqK ?_)
        refine kc_X11_111 rfl (dtk dt_X11_takeForKind 13 (24, .invokevirtual 111, 3) rfl) (c_X11_answer (G := G)  hw) rfl rfl (wk_0 hw) (fitR (by decide) (by decide)) (Nat.le_of_ble_eq_true rfl) (pqK ?_)
        refine x_goto (tgt := 36) (dtk dt_X11_takeForKind 14 (27, .goto 9, 3) rfl) (by decide) ?_
        exact r_i (dtk dt_X11_takeForKind 18 (36, .ireturn, 1) rfl) rfl (by have hkk : M 37 o = 0 ∨ M 37 o = 1 ∨ M 37 o = 2 ∨ M 37 o = 3 ∨ M 37 o = 4 ∨ M 37 o = 5 := (by omega); rcases hkk with h | h | h | h | h | h <;> rw [h] <;> first | (exfalso; omega) | (rw [c16]; rfl) | (exfalso; simp_all; done)) (by have hkk : M 37 o = 0 ∨ M 37 o = 1 ∨ M 37 o = 2 ∨ M 37 o = 3 ∨ M 37 o = 4 ∨ M 37 o = 5 := (by omega); rcases hkk with h | h | h | h | h | h <;> rw [h] <;> first | (exfalso; omega) | (rw [c16]; rfl) | (exfalso; simp_all; done))
      by_cases hsp21_4 : M 37 o = 4
      · skip
        refine kc_X11_94_X2 rfl (dtk dt_X11_takeForKind 12 (21, .invokevirtual 94, 3) rfl) (c_X2_kind (G := G) (p := M 1 o) ) rfl rfl (by rw [hO.k, hsp21_4]; rfl) (fitR (by decide) (by decide)) (Nat.le_of_ble_eq_true rfl) (pqK ?_)
        refine kc_X11_111 rfl (dtk dt_X11_takeForKind 13 (24, .invokevirtual 111, 3) rfl) (c_X11_answer (G := G)  hw) rfl rfl (wk_0 hw) (fitR (by decide) (by decide)) (Nat.le_of_ble_eq_true rfl) (pqK ?_)
        refine x_goto (tgt := 36) (dtk dt_X11_takeForKind 14 (27, .goto 9, 3) rfl) (by decide) ?_
        exact r_i (dtk dt_X11_takeForKind 18 (36, .ireturn, 1) rfl) rfl (by have hkk : M 37 o = 0 ∨ M 37 o = 1 ∨ M 37 o = 2 ∨ M 37 o = 3 ∨ M 37 o = 4 ∨ M 37 o = 5 := (by omega); rcases hkk with h | h | h | h | h | h <;> rw [h] <;> first | (exfalso; omega) | (rw [c16]; rfl) | (exfalso; simp_all; done)) (by have hkk : M 37 o = 0 ∨ M 37 o = 1 ∨ M 37 o = 2 ∨ M 37 o = 3 ∨ M 37 o = 4 ∨ M 37 o = 5 := (by omega); rcases hkk with h | h | h | h | h | h <;> rw [h] <;> first | (exfalso; omega) | (rw [c16]; rfl) | (exfalso; simp_all; done))
      refine kc_X11_94_X5 rfl (dtk dt_X11_takeForKind 12 (21, .invokevirtual 94, 3) rfl) (c_X5_kind (G := G) (p := M 1 o) ) rfl rfl (by rw [hO.k, show M 37 o = 5 by omega]; rfl) (fitR (by decide) (by decide)) (Nat.le_of_ble_eq_true rfl) (pqK ?_)
      refine kc_X11_111 rfl (dtk dt_X11_takeForKind 13 (24, .invokevirtual 111, 3) rfl) (c_X11_answer (G := G)  hw) rfl rfl (wk_0 hw) (fitR (by decide) (by decide)) (Nat.le_of_ble_eq_true rfl) (pqK ?_)
      refine x_goto (tgt := 36) (dtk dt_X11_takeForKind 14 (27, .goto 9, 3) rfl) (by decide) ?_
      exact r_i (dtk dt_X11_takeForKind 18 (36, .ireturn, 1) rfl) rfl (by have hkk : M 37 o = 0 ∨ M 37 o = 1 ∨ M 37 o = 2 ∨ M 37 o = 3 ∨ M 37 o = 4 ∨ M 37 o = 5 := (by omega); rcases hkk with h | h | h | h | h | h <;> rw [h] <;> first | (exfalso; omega) | (rw [c16]; rfl) | (exfalso; simp_all; done)) (by have hkk : M 37 o = 0 ∨ M 37 o = 1 ∨ M 37 o = 2 ∨ M 37 o = 3 ∨ M 37 o = 4 ∨ M 37 o = 5 := (by omega); rcases hkk with h | h | h | h | h | h <;> rw [h] <;> first | (exfalso; omega) | (rw [c16]; rfl) | (exfalso; simp_all; done))
  by_cases hsp13_1 : M 37 o = 1
  · skip
    refine kc_X11_343 rfl (dtk dt_X11_takeForKind 8 (13, .invokestatic 343, 3) rfl) (c_X11_isOfKind_1 (G := G) (p := M 1 o) (by rw [hO.k, hsp13_1]; rfl) (by omega)) rfl rfl (fitR (by decide) (by decide)) (Nat.le_of_ble_eq_true rfl) (pqK ?_)
    refine x_if_eqB (tgt := 30) (dtk dt_X11_takeForKind 9 (16, .ifCond .eq 14, 3) rfl) (by decide) (fun c16 => ?_) (fun c16 => ?_)
    · skip
      refine x_aload_n (dtk dt_X11_takeForKind 15 (30, .aload_n 0, 1) rfl) rfl ?_
      refine x_bipush (v := 11) ⟨by decide, by decide⟩ (dtk dt_X11_takeForKind 16 (31, .bipush 11, 2) rfl) ?_
      refine kc_X11_71 rfl (dtk dt_X11_takeForKind 17 (33, .invokevirtual 71, 3) rfl) (c_X11_refuse (G := G)  hw) rfl rfl (wk_0 hw) (fitR (by decide) (by decide)) (Nat.le_of_ble_eq_true rfl) (pqK ?_)
      exact r_i (dtk dt_X11_takeForKind 18 (36, .ireturn, 1) rfl) rfl (by have hkk : M 37 o = 0 ∨ M 37 o = 1 ∨ M 37 o = 2 ∨ M 37 o = 3 ∨ M 37 o = 4 ∨ M 37 o = 5 := (by omega); rcases hkk with h | h | h | h | h | h <;> rw [h] <;> first | (exfalso; omega) | (rw [c16]; rfl) | (exfalso; simp_all; done)) (by have hkk : M 37 o = 0 ∨ M 37 o = 1 ∨ M 37 o = 2 ∨ M 37 o = 3 ∨ M 37 o = 4 ∨ M 37 o = 5 := (by omega); rcases hkk with h | h | h | h | h | h <;> rw [h] <;> first | (exfalso; omega) | (rw [c16]; rfl) | (exfalso; simp_all; done))
    · skip
      refine x_aload_n (dtk dt_X11_takeForKind 10 (19, .aload_n 0, 1) rfl) rfl ?_
      refine x_aload_n (dtk dt_X11_takeForKind 11 (20, .aload_n 1, 1) rfl) rfl ?_
      by_cases hsp21_0 : M 37 o = 0
      · skip
        refine kc_X11_94_X4 rfl (dtk dt_X11_takeForKind 12 (21, .invokevirtual 94, 3) rfl) (c_X4_kind (G := G) (p := M 1 o) ) rfl rfl (by rw [hO.k, hsp21_0]; rfl) (fitR (by decide) (by decide)) (Nat.le_of_ble_eq_true rfl) (pqK ?_)
        refine kc_X11_111 rfl (dtk dt_X11_takeForKind 13 (24, .invokevirtual 111, 3) rfl) (c_X11_answer (G := G)  hw) rfl rfl (wk_0 hw) (fitR (by decide) (by decide)) (Nat.le_of_ble_eq_true rfl) (pqK ?_)
        refine x_goto (tgt := 36) (dtk dt_X11_takeForKind 14 (27, .goto 9, 3) rfl) (by decide) ?_
        exact r_i (dtk dt_X11_takeForKind 18 (36, .ireturn, 1) rfl) rfl (by have hkk : M 37 o = 0 ∨ M 37 o = 1 ∨ M 37 o = 2 ∨ M 37 o = 3 ∨ M 37 o = 4 ∨ M 37 o = 5 := (by omega); rcases hkk with h | h | h | h | h | h <;> rw [h] <;> first | (exfalso; omega) | (rw [c16]; rfl) | (exfalso; simp_all; done)) (by have hkk : M 37 o = 0 ∨ M 37 o = 1 ∨ M 37 o = 2 ∨ M 37 o = 3 ∨ M 37 o = 4 ∨ M 37 o = 5 := (by omega); rcases hkk with h | h | h | h | h | h <;> rw [h] <;> first | (exfalso; omega) | (rw [c16]; rfl) | (exfalso; simp_all; done))
      by_cases hsp21_1 : M 37 o = 1
      · skip
        refine kc_X11_94_X9 rfl (dtk dt_X11_takeForKind 12 (21, .invokevirtual 94, 3) rfl) (c_X9_kind (G := G) (p := M 1 o) ) rfl rfl (by rw [hO.k, hsp21_1]; rfl) (fitR (by decide) (by decide)) (Nat.le_of_ble_eq_true rfl) (pqK ?_)
        refine kc_X11_111 rfl (dtk dt_X11_takeForKind 13 (24, .invokevirtual 111, 3) rfl) (c_X11_answer (G := G)  hw) rfl rfl (wk_0 hw) (fitR (by decide) (by decide)) (Nat.le_of_ble_eq_true rfl) (pqK ?_)
        refine x_goto (tgt := 36) (dtk dt_X11_takeForKind 14 (27, .goto 9, 3) rfl) (by decide) ?_
        exact r_i (dtk dt_X11_takeForKind 18 (36, .ireturn, 1) rfl) rfl (by have hkk : M 37 o = 0 ∨ M 37 o = 1 ∨ M 37 o = 2 ∨ M 37 o = 3 ∨ M 37 o = 4 ∨ M 37 o = 5 := (by omega); rcases hkk with h | h | h | h | h | h <;> rw [h] <;> first | (exfalso; omega) | (rw [c16]; rfl) | (exfalso; simp_all; done)) (by have hkk : M 37 o = 0 ∨ M 37 o = 1 ∨ M 37 o = 2 ∨ M 37 o = 3 ∨ M 37 o = 4 ∨ M 37 o = 5 := (by omega); rcases hkk with h | h | h | h | h | h <;> rw [h] <;> first | (exfalso; omega) | (rw [c16]; rfl) | (exfalso; simp_all; done))
      by_cases hsp21_2 : M 37 o = 2
      · skip
        refine kc_X11_94_X0 rfl (dtk dt_X11_takeForKind 12 (21, .invokevirtual 94, 3) rfl) (c_X0_kind (G := G) (p := M 1 o) ) rfl rfl (by rw [hO.k, hsp21_2]; rfl) (fitR (by decide) (by decide)) (Nat.le_of_ble_eq_true rfl) (pqK ?_)
        refine kc_X11_111 rfl (dtk dt_X11_takeForKind 13 (24, .invokevirtual 111, 3) rfl) (c_X11_answer (G := G)  hw) rfl rfl (wk_0 hw) (fitR (by decide) (by decide)) (Nat.le_of_ble_eq_true rfl) (pqK ?_)
        refine x_goto (tgt := 36) (dtk dt_X11_takeForKind 14 (27, .goto 9, 3) rfl) (by decide) ?_
        exact r_i (dtk dt_X11_takeForKind 18 (36, .ireturn, 1) rfl) rfl (by have hkk : M 37 o = 0 ∨ M 37 o = 1 ∨ M 37 o = 2 ∨ M 37 o = 3 ∨ M 37 o = 4 ∨ M 37 o = 5 := (by omega); rcases hkk with h | h | h | h | h | h <;> rw [h] <;> first | (exfalso; omega) | (rw [c16]; rfl) | (exfalso; simp_all; done)) (by have hkk : M 37 o = 0 ∨ M 37 o = 1 ∨ M 37 o = 2 ∨ M 37 o = 3 ∨ M 37 o = 4 ∨ M 37 o = 5 := (by omega); rcases hkk with h | h | h | h | h | h <;> rw [h] <;> first | (exfalso; omega) | (rw [c16]; rfl) | (exfalso; simp_all; done))
      by_cases hsp21_3 : M 37 o = 3
      · skip
        refine kc_X11_94_X10 rfl (dtk dt_X11_takeForKind 12 (21, .invokevirtual 94, 3) rfl) (c_X10_kind (G := G) (p := M 1 o) ) rfl rfl (by rw [hO.k, hsp21_3]; rfl) (fitR (by decide) (by decide)) (Nat.le_of_ble_eq_true rfl) (pqK ?_)
        refine kc_X11_111 rfl (dtk dt_X11_takeForKind 13 (24, .invokevirtual 111, 3) rfl) (c_X11_answer (G := G)  hw) rfl rfl (wk_0 hw) (fitR (by decide) (by decide)) (Nat.le_of_ble_eq_true rfl) (pqK ?_)
        refine x_goto (tgt := 36) (dtk dt_X11_takeForKind 14 (27, .goto 9, 3) rfl) (by decide) ?_
        exact r_i (dtk dt_X11_takeForKind 18 (36, .ireturn, 1) rfl) rfl (by have hkk : M 37 o = 0 ∨ M 37 o = 1 ∨ M 37 o = 2 ∨ M 37 o = 3 ∨ M 37 o = 4 ∨ M 37 o = 5 := (by omega); rcases hkk with h | h | h | h | h | h <;> rw [h] <;> first | (exfalso; omega) | (rw [c16]; rfl) | (exfalso; simp_all; done)) (by have hkk : M 37 o = 0 ∨ M 37 o = 1 ∨ M 37 o = 2 ∨ M 37 o = 3 ∨ M 37 o = 4 ∨ M 37 o = 5 := (by omega); rcases hkk with h | h | h | h | h | h <;> rw [h] <;> first | (exfalso; omega) | (rw [c16]; rfl) | (exfalso; simp_all; done))
      by_cases hsp21_4 : M 37 o = 4
      · skip
        refine kc_X11_94_X2 rfl (dtk dt_X11_takeForKind 12 (21, .invokevirtual 94, 3) rfl) (c_X2_kind (G := G) (p := M 1 o) ) rfl rfl (by rw [hO.k, hsp21_4]; rfl) (fitR (by decide) (by decide)) (Nat.le_of_ble_eq_true rfl) (pqK ?_)
        refine kc_X11_111 rfl (dtk dt_X11_takeForKind 13 (24, .invokevirtual 111, 3) rfl) (c_X11_answer (G := G)  hw) rfl rfl (wk_0 hw) (fitR (by decide) (by decide)) (Nat.le_of_ble_eq_true rfl) (pqK ?_)
        refine x_goto (tgt := 36) (dtk dt_X11_takeForKind 14 (27, .goto 9, 3) rfl) (by decide) ?_
        exact r_i (dtk dt_X11_takeForKind 18 (36, .ireturn, 1) rfl) rfl (by have hkk : M 37 o = 0 ∨ M 37 o = 1 ∨ M 37 o = 2 ∨ M 37 o = 3 ∨ M 37 o = 4 ∨ M 37 o = 5 := (by omega); rcases hkk with h | h | h | h | h | h <;> rw [h] <;> first | (exfalso; omega) | (rw [c16]; rfl) | (exfalso; simp_all; done)) (by have hkk : M 37 o = 0 ∨ M 37 o = 1 ∨ M 37 o = 2 ∨ M 37 o = 3 ∨ M 37 o = 4 ∨ M 37 o = 5 := (by omega); rcases hkk with h | h | h | h | h | h <;> rw [h] <;> first | (exfalso; omega) | (rw [c16]; rfl) | (exfalso; simp_all; done))
      refine kc_X11_94_X5 rfl (dtk dt_X11_takeForKind 12 (21, .invokevirtual 94, 3) rfl) (c_X5_kind (G := G) (p := M 1 o) ) rfl rfl (by rw [hO.k, show M 37 o = 5 by omega]; rfl) (fitR (by decide) (by decide)) (Nat.le_of_ble_eq_true rfl) (pqK ?_)
      refine kc_X11_111 rfl (dtk dt_X11_takeForKind 13 (24, .invokevirtual 111, 3) rfl) (c_X11_answer (G := G)  hw) rfl rfl (wk_0 hw) (fitR (by decide) (by decide)) (Nat.le_of_ble_eq_true rfl) (pqK ?_)
      refine x_goto (tgt := 36) (dtk dt_X11_takeForKind 14 (27, .goto 9, 3) rfl) (by decide) ?_
      exact r_i (dtk dt_X11_takeForKind 18 (36, .ireturn, 1) rfl) rfl (by have hkk : M 37 o = 0 ∨ M 37 o = 1 ∨ M 37 o = 2 ∨ M 37 o = 3 ∨ M 37 o = 4 ∨ M 37 o = 5 := (by omega); rcases hkk with h | h | h | h | h | h <;> rw [h] <;> first | (exfalso; omega) | (rw [c16]; rfl) | (exfalso; simp_all; done)) (by have hkk : M 37 o = 0 ∨ M 37 o = 1 ∨ M 37 o = 2 ∨ M 37 o = 3 ∨ M 37 o = 4 ∨ M 37 o = 5 := (by omega); rcases hkk with h | h | h | h | h | h <;> rw [h] <;> first | (exfalso; omega) | (rw [c16]; rfl) | (exfalso; simp_all; done))
  by_cases hsp13_2 : M 37 o = 2
  · skip
    refine kc_X11_343 rfl (dtk dt_X11_takeForKind 8 (13, .invokestatic 343, 3) rfl) (c_X11_isOfKind_2 (G := G) (p := M 1 o) (by rw [hO.k, hsp13_2]; rfl) (by omega)) rfl rfl (fitR (by decide) (by decide)) (Nat.le_of_ble_eq_true rfl) (pqK ?_)
    refine x_if_eqB (tgt := 30) (dtk dt_X11_takeForKind 9 (16, .ifCond .eq 14, 3) rfl) (by decide) (fun c16 => ?_) (fun c16 => ?_)
    · skip
      refine x_aload_n (dtk dt_X11_takeForKind 15 (30, .aload_n 0, 1) rfl) rfl ?_
      refine x_bipush (v := 11) ⟨by decide, by decide⟩ (dtk dt_X11_takeForKind 16 (31, .bipush 11, 2) rfl) ?_
      refine kc_X11_71 rfl (dtk dt_X11_takeForKind 17 (33, .invokevirtual 71, 3) rfl) (c_X11_refuse (G := G)  hw) rfl rfl (wk_0 hw) (fitR (by decide) (by decide)) (Nat.le_of_ble_eq_true rfl) (pqK ?_)
      exact r_i (dtk dt_X11_takeForKind 18 (36, .ireturn, 1) rfl) rfl (by have hkk : M 37 o = 0 ∨ M 37 o = 1 ∨ M 37 o = 2 ∨ M 37 o = 3 ∨ M 37 o = 4 ∨ M 37 o = 5 := (by omega); rcases hkk with h | h | h | h | h | h <;> rw [h] <;> first | (exfalso; omega) | (rw [c16]; rfl) | (exfalso; simp_all; done)) (by have hkk : M 37 o = 0 ∨ M 37 o = 1 ∨ M 37 o = 2 ∨ M 37 o = 3 ∨ M 37 o = 4 ∨ M 37 o = 5 := (by omega); rcases hkk with h | h | h | h | h | h <;> rw [h] <;> first | (exfalso; omega) | (rw [c16]; rfl) | (exfalso; simp_all; done))
    · skip
      refine x_aload_n (dtk dt_X11_takeForKind 10 (19, .aload_n 0, 1) rfl) rfl ?_
      refine x_aload_n (dtk dt_X11_takeForKind 11 (20, .aload_n 1, 1) rfl) rfl ?_
      by_cases hsp21_0 : M 37 o = 0
      · skip
        refine kc_X11_94_X4 rfl (dtk dt_X11_takeForKind 12 (21, .invokevirtual 94, 3) rfl) (c_X4_kind (G := G) (p := M 1 o) ) rfl rfl (by rw [hO.k, hsp21_0]; rfl) (fitR (by decide) (by decide)) (Nat.le_of_ble_eq_true rfl) (pqK ?_)
        refine kc_X11_111 rfl (dtk dt_X11_takeForKind 13 (24, .invokevirtual 111, 3) rfl) (c_X11_answer (G := G)  hw) rfl rfl (wk_0 hw) (fitR (by decide) (by decide)) (Nat.le_of_ble_eq_true rfl) (pqK ?_)
        refine x_goto (tgt := 36) (dtk dt_X11_takeForKind 14 (27, .goto 9, 3) rfl) (by decide) ?_
        exact r_i (dtk dt_X11_takeForKind 18 (36, .ireturn, 1) rfl) rfl (by have hkk : M 37 o = 0 ∨ M 37 o = 1 ∨ M 37 o = 2 ∨ M 37 o = 3 ∨ M 37 o = 4 ∨ M 37 o = 5 := (by omega); rcases hkk with h | h | h | h | h | h <;> rw [h] <;> first | (exfalso; omega) | (rw [c16]; rfl) | (exfalso; simp_all; done)) (by have hkk : M 37 o = 0 ∨ M 37 o = 1 ∨ M 37 o = 2 ∨ M 37 o = 3 ∨ M 37 o = 4 ∨ M 37 o = 5 := (by omega); rcases hkk with h | h | h | h | h | h <;> rw [h] <;> first | (exfalso; omega) | (rw [c16]; rfl) | (exfalso; simp_all; done))
      by_cases hsp21_1 : M 37 o = 1
      · skip
        refine kc_X11_94_X9 rfl (dtk dt_X11_takeForKind 12 (21, .invokevirtual 94, 3) rfl) (c_X9_kind (G := G) (p := M 1 o) ) rfl rfl (by rw [hO.k, hsp21_1]; rfl) (fitR (by decide) (by decide)) (Nat.le_of_ble_eq_true rfl) (pqK ?_)
        refine kc_X11_111 rfl (dtk dt_X11_takeForKind 13 (24, .invokevirtual 111, 3) rfl) (c_X11_answer (G := G)  hw) rfl rfl (wk_0 hw) (fitR (by decide) (by decide)) (Nat.le_of_ble_eq_true rfl) (pqK ?_)
        refine x_goto (tgt := 36) (dtk dt_X11_takeForKind 14 (27, .goto 9, 3) rfl) (by decide) ?_
        exact r_i (dtk dt_X11_takeForKind 18 (36, .ireturn, 1) rfl) rfl (by have hkk : M 37 o = 0 ∨ M 37 o = 1 ∨ M 37 o = 2 ∨ M 37 o = 3 ∨ M 37 o = 4 ∨ M 37 o = 5 := (by omega); rcases hkk with h | h | h | h | h | h <;> rw [h] <;> first | (exfalso; omega) | (rw [c16]; rfl) | (exfalso; simp_all; done)) (by have hkk : M 37 o = 0 ∨ M 37 o = 1 ∨ M 37 o = 2 ∨ M 37 o = 3 ∨ M 37 o = 4 ∨ M 37 o = 5 := (by omega); rcases hkk with h | h | h | h | h | h <;> rw [h] <;> first | (exfalso; omega) | (rw [c16]; rfl) | (exfalso; simp_all; done))
      by_cases hsp21_2 : M 37 o = 2
      · skip
        refine kc_X11_94_X0 rfl (dtk dt_X11_takeForKind 12 (21, .invokevirtual 94, 3) rfl) (c_X0_kind (G := G) (p := M 1 o) ) rfl rfl (by rw [hO.k, hsp21_2]; rfl) (fitR (by decide) (by decide)) (Nat.le_of_ble_eq_true rfl) (pqK ?_)
        refine kc_X11_111 rfl (dtk dt_X11_takeForKind 13 (24, .invokevirtual 111, 3) rfl) (c_X11_answer (G := G)  hw) rfl rfl (wk_0 hw) (fitR (by decide) (by decide)) (Nat.le_of_ble_eq_true rfl) (pqK ?_)
        refine x_goto (tgt := 36) (dtk dt_X11_takeForKind 14 (27, .goto 9, 3) rfl) (by decide) ?_
        exact r_i (dtk dt_X11_takeForKind 18 (36, .ireturn, 1) rfl) rfl (by have hkk : M 37 o = 0 ∨ M 37 o = 1 ∨ M 37 o = 2 ∨ M 37 o = 3 ∨ M 37 o = 4 ∨ M 37 o = 5 := (by omega); rcases hkk with h | h | h | h | h | h <;> rw [h] <;> first | (exfalso; omega) | (rw [c16]; rfl) | (exfalso; simp_all; done)) (by have hkk : M 37 o = 0 ∨ M 37 o = 1 ∨ M 37 o = 2 ∨ M 37 o = 3 ∨ M 37 o = 4 ∨ M 37 o = 5 := (by omega); rcases hkk with h | h | h | h | h | h <;> rw [h] <;> first | (exfalso; omega) | (rw [c16]; rfl) | (exfalso; simp_all; done))
      by_cases hsp21_3 : M 37 o = 3
      · skip
        refine kc_X11_94_X10 rfl (dtk dt_X11_takeForKind 12 (21, .invokevirtual 94, 3) rfl) (c_X10_kind (G := G) (p := M 1 o) ) rfl rfl (by rw [hO.k, hsp21_3]; rfl) (fitR (by decide) (by decide)) (Nat.le_of_ble_eq_true rfl) (pqK ?_)
        refine kc_X11_111 rfl (dtk dt_X11_takeForKind 13 (24, .invokevirtual 111, 3) rfl) (c_X11_answer (G := G)  hw) rfl rfl (wk_0 hw) (fitR (by decide) (by decide)) (Nat.le_of_ble_eq_true rfl) (pqK ?_)
        refine x_goto (tgt := 36) (dtk dt_X11_takeForKind 14 (27, .goto 9, 3) rfl) (by decide) ?_
        exact r_i (dtk dt_X11_takeForKind 18 (36, .ireturn, 1) rfl) rfl (by have hkk : M 37 o = 0 ∨ M 37 o = 1 ∨ M 37 o = 2 ∨ M 37 o = 3 ∨ M 37 o = 4 ∨ M 37 o = 5 := (by omega); rcases hkk with h | h | h | h | h | h <;> rw [h] <;> first | (exfalso; omega) | (rw [c16]; rfl) | (exfalso; simp_all; done)) (by have hkk : M 37 o = 0 ∨ M 37 o = 1 ∨ M 37 o = 2 ∨ M 37 o = 3 ∨ M 37 o = 4 ∨ M 37 o = 5 := (by omega); rcases hkk with h | h | h | h | h | h <;> rw [h] <;> first | (exfalso; omega) | (rw [c16]; rfl) | (exfalso; simp_all; done))
      by_cases hsp21_4 : M 37 o = 4
      · skip
        refine kc_X11_94_X2 rfl (dtk dt_X11_takeForKind 12 (21, .invokevirtual 94, 3) rfl) (c_X2_kind (G := G) (p := M 1 o) ) rfl rfl (by rw [hO.k, hsp21_4]; rfl) (fitR (by decide) (by decide)) (Nat.le_of_ble_eq_true rfl) (pqK ?_)
        refine kc_X11_111 rfl (dtk dt_X11_takeForKind 13 (24, .invokevirtual 111, 3) rfl) (c_X11_answer (G := G)  hw) rfl rfl (wk_0 hw) (fitR (by decide) (by decide)) (Nat.le_of_ble_eq_true rfl) (pqK ?_)
        refine x_goto (tgt := 36) (dtk dt_X11_takeForKind 14 (27, .goto 9, 3) rfl) (by decide) ?_
        exact r_i (dtk dt_X11_takeForKind 18 (36, .ireturn, 1) rfl) rfl (by have hkk : M 37 o = 0 ∨ M 37 o = 1 ∨ M 37 o = 2 ∨ M 37 o = 3 ∨ M 37 o = 4 ∨ M 37 o = 5 := (by omega); rcases hkk with h | h | h | h | h | h <;> rw [h] <;> first | (exfalso; omega) | (rw [c16]; rfl) | (exfalso; simp_all; done)) (by have hkk : M 37 o = 0 ∨ M 37 o = 1 ∨ M 37 o = 2 ∨ M 37 o = 3 ∨ M 37 o = 4 ∨ M 37 o = 5 := (by omega); rcases hkk with h | h | h | h | h | h <;> rw [h] <;> first | (exfalso; omega) | (rw [c16]; rfl) | (exfalso; simp_all; done))
      refine kc_X11_94_X5 rfl (dtk dt_X11_takeForKind 12 (21, .invokevirtual 94, 3) rfl) (c_X5_kind (G := G) (p := M 1 o) ) rfl rfl (by rw [hO.k, show M 37 o = 5 by omega]; rfl) (fitR (by decide) (by decide)) (Nat.le_of_ble_eq_true rfl) (pqK ?_)
      refine kc_X11_111 rfl (dtk dt_X11_takeForKind 13 (24, .invokevirtual 111, 3) rfl) (c_X11_answer (G := G)  hw) rfl rfl (wk_0 hw) (fitR (by decide) (by decide)) (Nat.le_of_ble_eq_true rfl) (pqK ?_)
      refine x_goto (tgt := 36) (dtk dt_X11_takeForKind 14 (27, .goto 9, 3) rfl) (by decide) ?_
      exact r_i (dtk dt_X11_takeForKind 18 (36, .ireturn, 1) rfl) rfl (by have hkk : M 37 o = 0 ∨ M 37 o = 1 ∨ M 37 o = 2 ∨ M 37 o = 3 ∨ M 37 o = 4 ∨ M 37 o = 5 := (by omega); rcases hkk with h | h | h | h | h | h <;> rw [h] <;> first | (exfalso; omega) | (rw [c16]; rfl) | (exfalso; simp_all; done)) (by have hkk : M 37 o = 0 ∨ M 37 o = 1 ∨ M 37 o = 2 ∨ M 37 o = 3 ∨ M 37 o = 4 ∨ M 37 o = 5 := (by omega); rcases hkk with h | h | h | h | h | h <;> rw [h] <;> first | (exfalso; omega) | (rw [c16]; rfl) | (exfalso; simp_all; done))
  by_cases hsp13_3 : M 37 o = 3
  · skip
    refine kc_X11_343 rfl (dtk dt_X11_takeForKind 8 (13, .invokestatic 343, 3) rfl) (c_X11_isOfKind_3 (G := G) (p := M 1 o) (by rw [hO.k, hsp13_3]; rfl) (by omega)) rfl rfl (fitR (by decide) (by decide)) (Nat.le_of_ble_eq_true rfl) (pqK ?_)
    refine x_if_eqB (tgt := 30) (dtk dt_X11_takeForKind 9 (16, .ifCond .eq 14, 3) rfl) (by decide) (fun c16 => ?_) (fun c16 => ?_)
    · skip
      refine x_aload_n (dtk dt_X11_takeForKind 15 (30, .aload_n 0, 1) rfl) rfl ?_
      refine x_bipush (v := 11) ⟨by decide, by decide⟩ (dtk dt_X11_takeForKind 16 (31, .bipush 11, 2) rfl) ?_
      refine kc_X11_71 rfl (dtk dt_X11_takeForKind 17 (33, .invokevirtual 71, 3) rfl) (c_X11_refuse (G := G)  hw) rfl rfl (wk_0 hw) (fitR (by decide) (by decide)) (Nat.le_of_ble_eq_true rfl) (pqK ?_)
      exact r_i (dtk dt_X11_takeForKind 18 (36, .ireturn, 1) rfl) rfl (by have hkk : M 37 o = 0 ∨ M 37 o = 1 ∨ M 37 o = 2 ∨ M 37 o = 3 ∨ M 37 o = 4 ∨ M 37 o = 5 := (by omega); rcases hkk with h | h | h | h | h | h <;> rw [h] <;> first | (exfalso; omega) | (rw [c16]; rfl) | (exfalso; simp_all; done)) (by have hkk : M 37 o = 0 ∨ M 37 o = 1 ∨ M 37 o = 2 ∨ M 37 o = 3 ∨ M 37 o = 4 ∨ M 37 o = 5 := (by omega); rcases hkk with h | h | h | h | h | h <;> rw [h] <;> first | (exfalso; omega) | (rw [c16]; rfl) | (exfalso; simp_all; done))
    · skip
      refine x_aload_n (dtk dt_X11_takeForKind 10 (19, .aload_n 0, 1) rfl) rfl ?_
      refine x_aload_n (dtk dt_X11_takeForKind 11 (20, .aload_n 1, 1) rfl) rfl ?_
      by_cases hsp21_0 : M 37 o = 0
      · skip
        refine kc_X11_94_X4 rfl (dtk dt_X11_takeForKind 12 (21, .invokevirtual 94, 3) rfl) (c_X4_kind (G := G) (p := M 1 o) ) rfl rfl (by rw [hO.k, hsp21_0]; rfl) (fitR (by decide) (by decide)) (Nat.le_of_ble_eq_true rfl) (pqK ?_)
        refine kc_X11_111 rfl (dtk dt_X11_takeForKind 13 (24, .invokevirtual 111, 3) rfl) (c_X11_answer (G := G)  hw) rfl rfl (wk_0 hw) (fitR (by decide) (by decide)) (Nat.le_of_ble_eq_true rfl) (pqK ?_)
        refine x_goto (tgt := 36) (dtk dt_X11_takeForKind 14 (27, .goto 9, 3) rfl) (by decide) ?_
        exact r_i (dtk dt_X11_takeForKind 18 (36, .ireturn, 1) rfl) rfl (by have hkk : M 37 o = 0 ∨ M 37 o = 1 ∨ M 37 o = 2 ∨ M 37 o = 3 ∨ M 37 o = 4 ∨ M 37 o = 5 := (by omega); rcases hkk with h | h | h | h | h | h <;> rw [h] <;> first | (exfalso; omega) | (rw [c16]; rfl) | (exfalso; simp_all; done)) (by have hkk : M 37 o = 0 ∨ M 37 o = 1 ∨ M 37 o = 2 ∨ M 37 o = 3 ∨ M 37 o = 4 ∨ M 37 o = 5 := (by omega); rcases hkk with h | h | h | h | h | h <;> rw [h] <;> first | (exfalso; omega) | (rw [c16]; rfl) | (exfalso; simp_all; done))
      by_cases hsp21_1 : M 37 o = 1
      · skip
        refine kc_X11_94_X9 rfl (dtk dt_X11_takeForKind 12 (21, .invokevirtual 94, 3) rfl) (c_X9_kind (G := G) (p := M 1 o) ) rfl rfl (by rw [hO.k, hsp21_1]; rfl) (fitR (by decide) (by decide)) (Nat.le_of_ble_eq_true rfl) (pqK ?_)
        refine kc_X11_111 rfl (dtk dt_X11_takeForKind 13 (24, .invokevirtual 111, 3) rfl) (c_X11_answer (G := G)  hw) rfl rfl (wk_0 hw) (fitR (by decide) (by decide)) (Nat.le_of_ble_eq_true rfl) (pqK ?_)
        refine x_goto (tgt := 36) (dtk dt_X11_takeForKind 14 (27, .goto 9, 3) rfl) (by decide) ?_
        exact r_i (dtk dt_X11_takeForKind 18 (36, .ireturn, 1) rfl) rfl (by have hkk : M 37 o = 0 ∨ M 37 o = 1 ∨ M 37 o = 2 ∨ M 37 o = 3 ∨ M 37 o = 4 ∨ M 37 o = 5 := (by omega); rcases hkk with h | h | h | h | h | h <;> rw [h] <;> first | (exfalso; omega) | (rw [c16]; rfl) | (exfalso; simp_all; done)) (by have hkk : M 37 o = 0 ∨ M 37 o = 1 ∨ M 37 o = 2 ∨ M 37 o = 3 ∨ M 37 o = 4 ∨ M 37 o = 5 := (by omega); rcases hkk with h | h | h | h | h | h <;> rw [h] <;> first | (exfalso; omega) | (rw [c16]; rfl) | (exfalso; simp_all; done))
      by_cases hsp21_2 : M 37 o = 2
      · skip
        refine kc_X11_94_X0 rfl (dtk dt_X11_takeForKind 12 (21, .invokevirtual 94, 3) rfl) (c_X0_kind (G := G) (p := M 1 o) ) rfl rfl (by rw [hO.k, hsp21_2]; rfl) (fitR (by decide) (by decide)) (Nat.le_of_ble_eq_true rfl) (pqK ?_)
        refine kc_X11_111 rfl (dtk dt_X11_takeForKind 13 (24, .invokevirtual 111, 3) rfl) (c_X11_answer (G := G)  hw) rfl rfl (wk_0 hw) (fitR (by decide) (by decide)) (Nat.le_of_ble_eq_true rfl) (pqK ?_)
        refine x_goto (tgt := 36) (dtk dt_X11_takeForKind 14 (27, .goto 9, 3) rfl) (by decide) ?_
        exact r_i (dtk dt_X11_takeForKind 18 (36, .ireturn, 1) rfl) rfl (by have hkk : M 37 o = 0 ∨ M 37 o = 1 ∨ M 37 o = 2 ∨ M 37 o = 3 ∨ M 37 o = 4 ∨ M 37 o = 5 := (by omega); rcases hkk with h | h | h | h | h | h <;> rw [h] <;> first | (exfalso; omega) | (rw [c16]; rfl) | (exfalso; simp_all; done)) (by have hkk : M 37 o = 0 ∨ M 37 o = 1 ∨ M 37 o = 2 ∨ M 37 o = 3 ∨ M 37 o = 4 ∨ M 37 o = 5 := (by omega); rcases hkk with h | h | h | h | h | h <;> rw [h] <;> first | (exfalso; omega) | (rw [c16]; rfl) | (exfalso; simp_all; done))
      by_cases hsp21_3 : M 37 o = 3
      · skip
        refine kc_X11_94_X10 rfl (dtk dt_X11_takeForKind 12 (21, .invokevirtual 94, 3) rfl) (c_X10_kind (G := G) (p := M 1 o) ) rfl rfl (by rw [hO.k, hsp21_3]; rfl) (fitR (by decide) (by decide)) (Nat.le_of_ble_eq_true rfl) (pqK ?_)
        refine kc_X11_111 rfl (dtk dt_X11_takeForKind 13 (24, .invokevirtual 111, 3) rfl) (c_X11_answer (G := G)  hw) rfl rfl (wk_0 hw) (fitR (by decide) (by decide)) (Nat.le_of_ble_eq_true rfl) (pqK ?_)
        refine x_goto (tgt := 36) (dtk dt_X11_takeForKind 14 (27, .goto 9, 3) rfl) (by decide) ?_
        exact r_i (dtk dt_X11_takeForKind 18 (36, .ireturn, 1) rfl) rfl (by have hkk : M 37 o = 0 ∨ M 37 o = 1 ∨ M 37 o = 2 ∨ M 37 o = 3 ∨ M 37 o = 4 ∨ M 37 o = 5 := (by omega); rcases hkk with h | h | h | h | h | h <;> rw [h] <;> first | (exfalso; omega) | (rw [c16]; rfl) | (exfalso; simp_all; done)) (by have hkk : M 37 o = 0 ∨ M 37 o = 1 ∨ M 37 o = 2 ∨ M 37 o = 3 ∨ M 37 o = 4 ∨ M 37 o = 5 := (by omega); rcases hkk with h | h | h | h | h | h <;> rw [h] <;> first | (exfalso; omega) | (rw [c16]; rfl) | (exfalso; simp_all; done))
      by_cases hsp21_4 : M 37 o = 4
      · skip
        refine kc_X11_94_X2 rfl (dtk dt_X11_takeForKind 12 (21, .invokevirtual 94, 3) rfl) (c_X2_kind (G := G) (p := M 1 o) ) rfl rfl (by rw [hO.k, hsp21_4]; rfl) (fitR (by decide) (by decide)) (Nat.le_of_ble_eq_true rfl) (pqK ?_)
        refine kc_X11_111 rfl (dtk dt_X11_takeForKind 13 (24, .invokevirtual 111, 3) rfl) (c_X11_answer (G := G)  hw) rfl rfl (wk_0 hw) (fitR (by decide) (by decide)) (Nat.le_of_ble_eq_true rfl) (pqK ?_)
        refine x_goto (tgt := 36) (dtk dt_X11_takeForKind 14 (27, .goto 9, 3) rfl) (by decide) ?_
        exact r_i (dtk dt_X11_takeForKind 18 (36, .ireturn, 1) rfl) rfl (by have hkk : M 37 o = 0 ∨ M 37 o = 1 ∨ M 37 o = 2 ∨ M 37 o = 3 ∨ M 37 o = 4 ∨ M 37 o = 5 := (by omega); rcases hkk with h | h | h | h | h | h <;> rw [h] <;> first | (exfalso; omega) | (rw [c16]; rfl) | (exfalso; simp_all; done)) (by have hkk : M 37 o = 0 ∨ M 37 o = 1 ∨ M 37 o = 2 ∨ M 37 o = 3 ∨ M 37 o = 4 ∨ M 37 o = 5 := (by omega); rcases hkk with h | h | h | h | h | h <;> rw [h] <;> first | (exfalso; omega) | (rw [c16]; rfl) | (exfalso; simp_all; done))
      refine kc_X11_94_X5 rfl (dtk dt_X11_takeForKind 12 (21, .invokevirtual 94, 3) rfl) (c_X5_kind (G := G) (p := M 1 o) ) rfl rfl (by rw [hO.k, show M 37 o = 5 by omega]; rfl) (fitR (by decide) (by decide)) (Nat.le_of_ble_eq_true rfl) (pqK ?_)
      refine kc_X11_111 rfl (dtk dt_X11_takeForKind 13 (24, .invokevirtual 111, 3) rfl) (c_X11_answer (G := G)  hw) rfl rfl (wk_0 hw) (fitR (by decide) (by decide)) (Nat.le_of_ble_eq_true rfl) (pqK ?_)
      refine x_goto (tgt := 36) (dtk dt_X11_takeForKind 14 (27, .goto 9, 3) rfl) (by decide) ?_
      exact r_i (dtk dt_X11_takeForKind 18 (36, .ireturn, 1) rfl) rfl (by have hkk : M 37 o = 0 ∨ M 37 o = 1 ∨ M 37 o = 2 ∨ M 37 o = 3 ∨ M 37 o = 4 ∨ M 37 o = 5 := (by omega); rcases hkk with h | h | h | h | h | h <;> rw [h] <;> first | (exfalso; omega) | (rw [c16]; rfl) | (exfalso; simp_all; done)) (by have hkk : M 37 o = 0 ∨ M 37 o = 1 ∨ M 37 o = 2 ∨ M 37 o = 3 ∨ M 37 o = 4 ∨ M 37 o = 5 := (by omega); rcases hkk with h | h | h | h | h | h <;> rw [h] <;> first | (exfalso; omega) | (rw [c16]; rfl) | (exfalso; simp_all; done))
  by_cases hsp13_4 : M 37 o = 4
  · skip
    refine kc_X11_343 rfl (dtk dt_X11_takeForKind 8 (13, .invokestatic 343, 3) rfl) (c_X11_isOfKind_4 (G := G) (p := M 1 o) (by rw [hO.k, hsp13_4]; rfl) (by omega)) rfl rfl (fitR (by decide) (by decide)) (Nat.le_of_ble_eq_true rfl) (pqK ?_)
    refine x_if_eqB (tgt := 30) (dtk dt_X11_takeForKind 9 (16, .ifCond .eq 14, 3) rfl) (by decide) (fun c16 => ?_) (fun c16 => ?_)
    · skip
      refine x_aload_n (dtk dt_X11_takeForKind 15 (30, .aload_n 0, 1) rfl) rfl ?_
      refine x_bipush (v := 11) ⟨by decide, by decide⟩ (dtk dt_X11_takeForKind 16 (31, .bipush 11, 2) rfl) ?_
      refine kc_X11_71 rfl (dtk dt_X11_takeForKind 17 (33, .invokevirtual 71, 3) rfl) (c_X11_refuse (G := G)  hw) rfl rfl (wk_0 hw) (fitR (by decide) (by decide)) (Nat.le_of_ble_eq_true rfl) (pqK ?_)
      exact r_i (dtk dt_X11_takeForKind 18 (36, .ireturn, 1) rfl) rfl (by have hkk : M 37 o = 0 ∨ M 37 o = 1 ∨ M 37 o = 2 ∨ M 37 o = 3 ∨ M 37 o = 4 ∨ M 37 o = 5 := (by omega); rcases hkk with h | h | h | h | h | h <;> rw [h] <;> first | (exfalso; omega) | (rw [c16]; rfl) | (exfalso; simp_all; done)) (by have hkk : M 37 o = 0 ∨ M 37 o = 1 ∨ M 37 o = 2 ∨ M 37 o = 3 ∨ M 37 o = 4 ∨ M 37 o = 5 := (by omega); rcases hkk with h | h | h | h | h | h <;> rw [h] <;> first | (exfalso; omega) | (rw [c16]; rfl) | (exfalso; simp_all; done))
    · skip
      refine x_aload_n (dtk dt_X11_takeForKind 10 (19, .aload_n 0, 1) rfl) rfl ?_
      refine x_aload_n (dtk dt_X11_takeForKind 11 (20, .aload_n 1, 1) rfl) rfl ?_
      by_cases hsp21_0 : M 37 o = 0
      · skip
        refine kc_X11_94_X4 rfl (dtk dt_X11_takeForKind 12 (21, .invokevirtual 94, 3) rfl) (c_X4_kind (G := G) (p := M 1 o) ) rfl rfl (by rw [hO.k, hsp21_0]; rfl) (fitR (by decide) (by decide)) (Nat.le_of_ble_eq_true rfl) (pqK ?_)
        refine kc_X11_111 rfl (dtk dt_X11_takeForKind 13 (24, .invokevirtual 111, 3) rfl) (c_X11_answer (G := G)  hw) rfl rfl (wk_0 hw) (fitR (by decide) (by decide)) (Nat.le_of_ble_eq_true rfl) (pqK ?_)
        refine x_goto (tgt := 36) (dtk dt_X11_takeForKind 14 (27, .goto 9, 3) rfl) (by decide) ?_
        exact r_i (dtk dt_X11_takeForKind 18 (36, .ireturn, 1) rfl) rfl (by have hkk : M 37 o = 0 ∨ M 37 o = 1 ∨ M 37 o = 2 ∨ M 37 o = 3 ∨ M 37 o = 4 ∨ M 37 o = 5 := (by omega); rcases hkk with h | h | h | h | h | h <;> rw [h] <;> first | (exfalso; omega) | (rw [c16]; rfl) | (exfalso; simp_all; done)) (by have hkk : M 37 o = 0 ∨ M 37 o = 1 ∨ M 37 o = 2 ∨ M 37 o = 3 ∨ M 37 o = 4 ∨ M 37 o = 5 := (by omega); rcases hkk with h | h | h | h | h | h <;> rw [h] <;> first | (exfalso; omega) | (rw [c16]; rfl) | (exfalso; simp_all; done))
      by_cases hsp21_1 : M 37 o = 1
      · skip
        refine kc_X11_94_X9 rfl (dtk dt_X11_takeForKind 12 (21, .invokevirtual 94, 3) rfl) (c_X9_kind (G := G) (p := M 1 o) ) rfl rfl (by rw [hO.k, hsp21_1]; rfl) (fitR (by decide) (by decide)) (Nat.le_of_ble_eq_true rfl) (pqK ?_)
        refine kc_X11_111 rfl (dtk dt_X11_takeForKind 13 (24, .invokevirtual 111, 3) rfl) (c_X11_answer (G := G)  hw) rfl rfl (wk_0 hw) (fitR (by decide) (by decide)) (Nat.le_of_ble_eq_true rfl) (pqK ?_)
        refine x_goto (tgt := 36) (dtk dt_X11_takeForKind 14 (27, .goto 9, 3) rfl) (by decide) ?_
        exact r_i (dtk dt_X11_takeForKind 18 (36, .ireturn, 1) rfl) rfl (by have hkk : M 37 o = 0 ∨ M 37 o = 1 ∨ M 37 o = 2 ∨ M 37 o = 3 ∨ M 37 o = 4 ∨ M 37 o = 5 := (by omega); rcases hkk with h | h | h | h | h | h <;> rw [h] <;> first | (exfalso; omega) | (rw [c16]; rfl) | (exfalso; simp_all; done)) (by have hkk : M 37 o = 0 ∨ M 37 o = 1 ∨ M 37 o = 2 ∨ M 37 o = 3 ∨ M 37 o = 4 ∨ M 37 o = 5 := (by omega); rcases hkk with h | h | h | h | h | h <;> rw [h] <;> first | (exfalso; omega) | (rw [c16]; rfl) | (exfalso; simp_all; done))
      by_cases hsp21_2 : M 37 o = 2
      · skip
        refine kc_X11_94_X0 rfl (dtk dt_X11_takeForKind 12 (21, .invokevirtual 94, 3) rfl) (c_X0_kind (G := G) (p := M 1 o) ) rfl rfl (by rw [hO.k, hsp21_2]; rfl) (fitR (by decide) (by decide)) (Nat.le_of_ble_eq_true rfl) (pqK ?_)
        refine kc_X11_111 rfl (dtk dt_X11_takeForKind 13 (24, .invokevirtual 111, 3) rfl) (c_X11_answer (G := G)  hw) rfl rfl (wk_0 hw) (fitR (by decide) (by decide)) (Nat.le_of_ble_eq_true rfl) (pqK ?_)
        refine x_goto (tgt := 36) (dtk dt_X11_takeForKind 14 (27, .goto 9, 3) rfl) (by decide) ?_
        exact r_i (dtk dt_X11_takeForKind 18 (36, .ireturn, 1) rfl) rfl (by have hkk : M 37 o = 0 ∨ M 37 o = 1 ∨ M 37 o = 2 ∨ M 37 o = 3 ∨ M 37 o = 4 ∨ M 37 o = 5 := (by omega); rcases hkk with h | h | h | h | h | h <;> rw [h] <;> first | (exfalso; omega) | (rw [c16]; rfl) | (exfalso; simp_all; done)) (by have hkk : M 37 o = 0 ∨ M 37 o = 1 ∨ M 37 o = 2 ∨ M 37 o = 3 ∨ M 37 o = 4 ∨ M 37 o = 5 := (by omega); rcases hkk with h | h | h | h | h | h <;> rw [h] <;> first | (exfalso; omega) | (rw [c16]; rfl) | (exfalso; simp_all; done))
      by_cases hsp21_3 : M 37 o = 3
      · skip
        refine kc_X11_94_X10 rfl (dtk dt_X11_takeForKind 12 (21, .invokevirtual 94, 3) rfl) (c_X10_kind (G := G) (p := M 1 o) ) rfl rfl (by rw [hO.k, hsp21_3]; rfl) (fitR (by decide) (by decide)) (Nat.le_of_ble_eq_true rfl) (pqK ?_)
        refine kc_X11_111 rfl (dtk dt_X11_takeForKind 13 (24, .invokevirtual 111, 3) rfl) (c_X11_answer (G := G)  hw) rfl rfl (wk_0 hw) (fitR (by decide) (by decide)) (Nat.le_of_ble_eq_true rfl) (pqK ?_)
        refine x_goto (tgt := 36) (dtk dt_X11_takeForKind 14 (27, .goto 9, 3) rfl) (by decide) ?_
        exact r_i (dtk dt_X11_takeForKind 18 (36, .ireturn, 1) rfl) rfl (by have hkk : M 37 o = 0 ∨ M 37 o = 1 ∨ M 37 o = 2 ∨ M 37 o = 3 ∨ M 37 o = 4 ∨ M 37 o = 5 := (by omega); rcases hkk with h | h | h | h | h | h <;> rw [h] <;> first | (exfalso; omega) | (rw [c16]; rfl) | (exfalso; simp_all; done)) (by have hkk : M 37 o = 0 ∨ M 37 o = 1 ∨ M 37 o = 2 ∨ M 37 o = 3 ∨ M 37 o = 4 ∨ M 37 o = 5 := (by omega); rcases hkk with h | h | h | h | h | h <;> rw [h] <;> first | (exfalso; omega) | (rw [c16]; rfl) | (exfalso; simp_all; done))
      by_cases hsp21_4 : M 37 o = 4
      · skip
        refine kc_X11_94_X2 rfl (dtk dt_X11_takeForKind 12 (21, .invokevirtual 94, 3) rfl) (c_X2_kind (G := G) (p := M 1 o) ) rfl rfl (by rw [hO.k, hsp21_4]; rfl) (fitR (by decide) (by decide)) (Nat.le_of_ble_eq_true rfl) (pqK ?_)
        refine kc_X11_111 rfl (dtk dt_X11_takeForKind 13 (24, .invokevirtual 111, 3) rfl) (c_X11_answer (G := G)  hw) rfl rfl (wk_0 hw) (fitR (by decide) (by decide)) (Nat.le_of_ble_eq_true rfl) (pqK ?_)
        refine x_goto (tgt := 36) (dtk dt_X11_takeForKind 14 (27, .goto 9, 3) rfl) (by decide) ?_
        exact r_i (dtk dt_X11_takeForKind 18 (36, .ireturn, 1) rfl) rfl (by have hkk : M 37 o = 0 ∨ M 37 o = 1 ∨ M 37 o = 2 ∨ M 37 o = 3 ∨ M 37 o = 4 ∨ M 37 o = 5 := (by omega); rcases hkk with h | h | h | h | h | h <;> rw [h] <;> first | (exfalso; omega) | (rw [c16]; rfl) | (exfalso; simp_all; done)) (by have hkk : M 37 o = 0 ∨ M 37 o = 1 ∨ M 37 o = 2 ∨ M 37 o = 3 ∨ M 37 o = 4 ∨ M 37 o = 5 := (by omega); rcases hkk with h | h | h | h | h | h <;> rw [h] <;> first | (exfalso; omega) | (rw [c16]; rfl) | (exfalso; simp_all; done))
      refine kc_X11_94_X5 rfl (dtk dt_X11_takeForKind 12 (21, .invokevirtual 94, 3) rfl) (c_X5_kind (G := G) (p := M 1 o) ) rfl rfl (by rw [hO.k, show M 37 o = 5 by omega]; rfl) (fitR (by decide) (by decide)) (Nat.le_of_ble_eq_true rfl) (pqK ?_)
      refine kc_X11_111 rfl (dtk dt_X11_takeForKind 13 (24, .invokevirtual 111, 3) rfl) (c_X11_answer (G := G)  hw) rfl rfl (wk_0 hw) (fitR (by decide) (by decide)) (Nat.le_of_ble_eq_true rfl) (pqK ?_)
      refine x_goto (tgt := 36) (dtk dt_X11_takeForKind 14 (27, .goto 9, 3) rfl) (by decide) ?_
      exact r_i (dtk dt_X11_takeForKind 18 (36, .ireturn, 1) rfl) rfl (by have hkk : M 37 o = 0 ∨ M 37 o = 1 ∨ M 37 o = 2 ∨ M 37 o = 3 ∨ M 37 o = 4 ∨ M 37 o = 5 := (by omega); rcases hkk with h | h | h | h | h | h <;> rw [h] <;> first | (exfalso; omega) | (rw [c16]; rfl) | (exfalso; simp_all; done)) (by have hkk : M 37 o = 0 ∨ M 37 o = 1 ∨ M 37 o = 2 ∨ M 37 o = 3 ∨ M 37 o = 4 ∨ M 37 o = 5 := (by omega); rcases hkk with h | h | h | h | h | h <;> rw [h] <;> first | (exfalso; omega) | (rw [c16]; rfl) | (exfalso; simp_all; done))
  refine kc_X11_343 rfl (dtk dt_X11_takeForKind 8 (13, .invokestatic 343, 3) rfl) (c_X11_isOfKind_5 (G := G) (p := M 1 o) (by rw [hO.k, show M 37 o = 5 by omega]; rfl) (by omega)) rfl rfl (fitR (by decide) (by decide)) (Nat.le_of_ble_eq_true rfl) (pqK ?_)
  refine x_if_eqB (tgt := 30) (dtk dt_X11_takeForKind 9 (16, .ifCond .eq 14, 3) rfl) (by decide) (fun c16 => ?_) (fun c16 => ?_)
  · skip
    refine x_aload_n (dtk dt_X11_takeForKind 15 (30, .aload_n 0, 1) rfl) rfl ?_
    refine x_bipush (v := 11) ⟨by decide, by decide⟩ (dtk dt_X11_takeForKind 16 (31, .bipush 11, 2) rfl) ?_
    refine kc_X11_71 rfl (dtk dt_X11_takeForKind 17 (33, .invokevirtual 71, 3) rfl) (c_X11_refuse (G := G)  hw) rfl rfl (wk_0 hw) (fitR (by decide) (by decide)) (Nat.le_of_ble_eq_true rfl) (pqK ?_)
    exact r_i (dtk dt_X11_takeForKind 18 (36, .ireturn, 1) rfl) rfl (by have hkk : M 37 o = 0 ∨ M 37 o = 1 ∨ M 37 o = 2 ∨ M 37 o = 3 ∨ M 37 o = 4 ∨ M 37 o = 5 := (by omega); rcases hkk with h | h | h | h | h | h <;> rw [h] <;> first | (exfalso; omega) | (rw [c16]; rfl) | (exfalso; simp_all; done)) (by have hkk : M 37 o = 0 ∨ M 37 o = 1 ∨ M 37 o = 2 ∨ M 37 o = 3 ∨ M 37 o = 4 ∨ M 37 o = 5 := (by omega); rcases hkk with h | h | h | h | h | h <;> rw [h] <;> first | (exfalso; omega) | (rw [c16]; rfl) | (exfalso; simp_all; done))
  · skip
    refine x_aload_n (dtk dt_X11_takeForKind 10 (19, .aload_n 0, 1) rfl) rfl ?_
    refine x_aload_n (dtk dt_X11_takeForKind 11 (20, .aload_n 1, 1) rfl) rfl ?_
    by_cases hsp21_0 : M 37 o = 0
    · skip
      refine kc_X11_94_X4 rfl (dtk dt_X11_takeForKind 12 (21, .invokevirtual 94, 3) rfl) (c_X4_kind (G := G) (p := M 1 o) ) rfl rfl (by rw [hO.k, hsp21_0]; rfl) (fitR (by decide) (by decide)) (Nat.le_of_ble_eq_true rfl) (pqK ?_)
      refine kc_X11_111 rfl (dtk dt_X11_takeForKind 13 (24, .invokevirtual 111, 3) rfl) (c_X11_answer (G := G)  hw) rfl rfl (wk_0 hw) (fitR (by decide) (by decide)) (Nat.le_of_ble_eq_true rfl) (pqK ?_)
      refine x_goto (tgt := 36) (dtk dt_X11_takeForKind 14 (27, .goto 9, 3) rfl) (by decide) ?_
      exact r_i (dtk dt_X11_takeForKind 18 (36, .ireturn, 1) rfl) rfl (by have hkk : M 37 o = 0 ∨ M 37 o = 1 ∨ M 37 o = 2 ∨ M 37 o = 3 ∨ M 37 o = 4 ∨ M 37 o = 5 := (by omega); rcases hkk with h | h | h | h | h | h <;> rw [h] <;> first | (exfalso; omega) | (rw [c16]; rfl) | (exfalso; simp_all; done)) (by have hkk : M 37 o = 0 ∨ M 37 o = 1 ∨ M 37 o = 2 ∨ M 37 o = 3 ∨ M 37 o = 4 ∨ M 37 o = 5 := (by omega); rcases hkk with h | h | h | h | h | h <;> rw [h] <;> first | (exfalso; omega) | (rw [c16]; rfl) | (exfalso; simp_all; done))
    by_cases hsp21_1 : M 37 o = 1
    · skip
      refine kc_X11_94_X9 rfl (dtk dt_X11_takeForKind 12 (21, .invokevirtual 94, 3) rfl) (c_X9_kind (G := G) (p := M 1 o) ) rfl rfl (by rw [hO.k, hsp21_1]; rfl) (fitR (by decide) (by decide)) (Nat.le_of_ble_eq_true rfl) (pqK ?_)
      refine kc_X11_111 rfl (dtk dt_X11_takeForKind 13 (24, .invokevirtual 111, 3) rfl) (c_X11_answer (G := G)  hw) rfl rfl (wk_0 hw) (fitR (by decide) (by decide)) (Nat.le_of_ble_eq_true rfl) (pqK ?_)
      refine x_goto (tgt := 36) (dtk dt_X11_takeForKind 14 (27, .goto 9, 3) rfl) (by decide) ?_
      exact r_i (dtk dt_X11_takeForKind 18 (36, .ireturn, 1) rfl) rfl (by have hkk : M 37 o = 0 ∨ M 37 o = 1 ∨ M 37 o = 2 ∨ M 37 o = 3 ∨ M 37 o = 4 ∨ M 37 o = 5 := (by omega); rcases hkk with h | h | h | h | h | h <;> rw [h] <;> first | (exfalso; omega) | (rw [c16]; rfl) | (exfalso; simp_all; done)) (by have hkk : M 37 o = 0 ∨ M 37 o = 1 ∨ M 37 o = 2 ∨ M 37 o = 3 ∨ M 37 o = 4 ∨ M 37 o = 5 := (by omega); rcases hkk with h | h | h | h | h | h <;> rw [h] <;> first | (exfalso; omega) | (rw [c16]; rfl) | (exfalso; simp_all; done))
    by_cases hsp21_2 : M 37 o = 2
    · skip
      refine kc_X11_94_X0 rfl (dtk dt_X11_takeForKind 12 (21, .invokevirtual 94, 3) rfl) (c_X0_kind (G := G) (p := M 1 o) ) rfl rfl (by rw [hO.k, hsp21_2]; rfl) (fitR (by decide) (by decide)) (Nat.le_of_ble_eq_true rfl) (pqK ?_)
      refine kc_X11_111 rfl (dtk dt_X11_takeForKind 13 (24, .invokevirtual 111, 3) rfl) (c_X11_answer (G := G)  hw) rfl rfl (wk_0 hw) (fitR (by decide) (by decide)) (Nat.le_of_ble_eq_true rfl) (pqK ?_)
      refine x_goto (tgt := 36) (dtk dt_X11_takeForKind 14 (27, .goto 9, 3) rfl) (by decide) ?_
      exact r_i (dtk dt_X11_takeForKind 18 (36, .ireturn, 1) rfl) rfl (by have hkk : M 37 o = 0 ∨ M 37 o = 1 ∨ M 37 o = 2 ∨ M 37 o = 3 ∨ M 37 o = 4 ∨ M 37 o = 5 := (by omega); rcases hkk with h | h | h | h | h | h <;> rw [h] <;> first | (exfalso; omega) | (rw [c16]; rfl) | (exfalso; simp_all; done)) (by have hkk : M 37 o = 0 ∨ M 37 o = 1 ∨ M 37 o = 2 ∨ M 37 o = 3 ∨ M 37 o = 4 ∨ M 37 o = 5 := (by omega); rcases hkk with h | h | h | h | h | h <;> rw [h] <;> first | (exfalso; omega) | (rw [c16]; rfl) | (exfalso; simp_all; done))
    by_cases hsp21_3 : M 37 o = 3
    · skip
      refine kc_X11_94_X10 rfl (dtk dt_X11_takeForKind 12 (21, .invokevirtual 94, 3) rfl) (c_X10_kind (G := G) (p := M 1 o) ) rfl rfl (by rw [hO.k, hsp21_3]; rfl) (fitR (by decide) (by decide)) (Nat.le_of_ble_eq_true rfl) (pqK ?_)
      refine kc_X11_111 rfl (dtk dt_X11_takeForKind 13 (24, .invokevirtual 111, 3) rfl) (c_X11_answer (G := G)  hw) rfl rfl (wk_0 hw) (fitR (by decide) (by decide)) (Nat.le_of_ble_eq_true rfl) (pqK ?_)
      refine x_goto (tgt := 36) (dtk dt_X11_takeForKind 14 (27, .goto 9, 3) rfl) (by decide) ?_
      exact r_i (dtk dt_X11_takeForKind 18 (36, .ireturn, 1) rfl) rfl (by have hkk : M 37 o = 0 ∨ M 37 o = 1 ∨ M 37 o = 2 ∨ M 37 o = 3 ∨ M 37 o = 4 ∨ M 37 o = 5 := (by omega); rcases hkk with h | h | h | h | h | h <;> rw [h] <;> first | (exfalso; omega) | (rw [c16]; rfl) | (exfalso; simp_all; done)) (by have hkk : M 37 o = 0 ∨ M 37 o = 1 ∨ M 37 o = 2 ∨ M 37 o = 3 ∨ M 37 o = 4 ∨ M 37 o = 5 := (by omega); rcases hkk with h | h | h | h | h | h <;> rw [h] <;> first | (exfalso; omega) | (rw [c16]; rfl) | (exfalso; simp_all; done))
    by_cases hsp21_4 : M 37 o = 4
    · skip
      refine kc_X11_94_X2 rfl (dtk dt_X11_takeForKind 12 (21, .invokevirtual 94, 3) rfl) (c_X2_kind (G := G) (p := M 1 o) ) rfl rfl (by rw [hO.k, hsp21_4]; rfl) (fitR (by decide) (by decide)) (Nat.le_of_ble_eq_true rfl) (pqK ?_)
      refine kc_X11_111 rfl (dtk dt_X11_takeForKind 13 (24, .invokevirtual 111, 3) rfl) (c_X11_answer (G := G)  hw) rfl rfl (wk_0 hw) (fitR (by decide) (by decide)) (Nat.le_of_ble_eq_true rfl) (pqK ?_)
      refine x_goto (tgt := 36) (dtk dt_X11_takeForKind 14 (27, .goto 9, 3) rfl) (by decide) ?_
      exact r_i (dtk dt_X11_takeForKind 18 (36, .ireturn, 1) rfl) rfl (by have hkk : M 37 o = 0 ∨ M 37 o = 1 ∨ M 37 o = 2 ∨ M 37 o = 3 ∨ M 37 o = 4 ∨ M 37 o = 5 := (by omega); rcases hkk with h | h | h | h | h | h <;> rw [h] <;> first | (exfalso; omega) | (rw [c16]; rfl) | (exfalso; simp_all; done)) (by have hkk : M 37 o = 0 ∨ M 37 o = 1 ∨ M 37 o = 2 ∨ M 37 o = 3 ∨ M 37 o = 4 ∨ M 37 o = 5 := (by omega); rcases hkk with h | h | h | h | h | h <;> rw [h] <;> first | (exfalso; omega) | (rw [c16]; rfl) | (exfalso; simp_all; done))
    refine kc_X11_94_X5 rfl (dtk dt_X11_takeForKind 12 (21, .invokevirtual 94, 3) rfl) (c_X5_kind (G := G) (p := M 1 o) ) rfl rfl (by rw [hO.k, show M 37 o = 5 by omega]; rfl) (fitR (by decide) (by decide)) (Nat.le_of_ble_eq_true rfl) (pqK ?_)
    refine kc_X11_111 rfl (dtk dt_X11_takeForKind 13 (24, .invokevirtual 111, 3) rfl) (c_X11_answer (G := G)  hw) rfl rfl (wk_0 hw) (fitR (by decide) (by decide)) (Nat.le_of_ble_eq_true rfl) (pqK ?_)
    refine x_goto (tgt := 36) (dtk dt_X11_takeForKind 14 (27, .goto 9, 3) rfl) (by decide) ?_
    exact r_i (dtk dt_X11_takeForKind 18 (36, .ireturn, 1) rfl) rfl (by have hkk : M 37 o = 0 ∨ M 37 o = 1 ∨ M 37 o = 2 ∨ M 37 o = 3 ∨ M 37 o = 4 ∨ M 37 o = 5 := (by omega); rcases hkk with h | h | h | h | h | h <;> rw [h] <;> first | (exfalso; omega) | (rw [c16]; rfl) | (exfalso; simp_all; done)) (by have hkk : M 37 o = 0 ∨ M 37 o = 1 ∨ M 37 o = 2 ∨ M 37 o = 3 ∨ M 37 o = 4 ∨ M 37 o = 5 := (by omega); rcases hkk with h | h | h | h | h | h <;> rw [h] <;> first | (exfalso; omega) | (rw [c16]; rfl) | (exfalso; simp_all; done))
