/-! ===== the model: fair, rank ===== -/
set_option maxRecDepth 100000 in
set_option maxHeartbeats 4000000 in
theorem c_X12_fair {G : GG} {n : Nat} {K : KK} {M : MM} {o : Int} (hm : MO K M) : MC G mi_X12_fair 5 0 0 [(1, 36), (0, o)] n K M (SQ (some (0, if isOr M o then fairF (M 38 o) (dM M o) else -1)) n K M (fun _ => True)) := by
  refine MC.intro (lc := [(0, (1, 36)), (1, (0, o))]) (by decide) rfl (by simp [Nat.ble]) (Nat.le_of_ble_eq_true rfl) rfl (fun hMR => ?_)
  refine x_aload_n (dtk dt_X12_fair 0 (0, .aload_n 0, 1) rfl) rfl ?_
  refine x_iload_n (dtk dt_X12_fair 1 (1, .iload_n 1, 1) rfl) rfl ?_
  refine kc_X12_78 rfl (dtk dt_X12_fair 2 (2, .invokevirtual 78, 3) rfl) (c_X12_isOrder (G := G)  hm) rfl rfl (wk_36 hm.1) (fitR (by decide) (by decide)) (Nat.le_of_ble_eq_true rfl) (pqK ?_)
  refine x_if_neB (tgt := 10) (dtk dt_X12_fair 3 (5, .ifCond .ne 5, 3) rfl) (by decide) (fun c5 => ?_) (fun c5 => ?_)
  · skip
    have ho := isOr_of hm c5
    have hA : AT K M o (M 38 o) (dM M o) := ⟨hm, ho, rfl, rfl⟩
    have hsz := hA.ok.1
    have hp := p2_b hsz
    have ht0 := ly_b10 (d := dM M o) (a := 0) (b := 0) (s := 0) hsz (by omega)
    change 0 ≤ tl (M 38 o) (dM M o) 0 ∧ tl (M 38 o) (dM M o) 0 ≤ 3628800 at ht0
    refine x_aload_n (dtk dt_X12_fair 6 (10, .aload_n 0, 1) rfl) rfl ?_
    refine x_iload_n (dtk dt_X12_fair 7 (11, .iload_n 1, 1) rfl) rfl ?_
    refine kc_X12_149 rfl (dtk dt_X12_fair 8 (12, .invokevirtual 149, 3) rfl) (c_X12_count0 (G := G)  hA) rfl rfl (wk_36 hA.wf) (fitR (by decide) (by decide)) (Nat.le_of_ble_eq_true rfl) (sqK (fun M12_1 hs12_1 hE12_1 => ?_))
    have hE := hE12_1
    refine x_istore_n (dtk dt_X12_fair 9 (15, .istore_n 2, 1) rfl) (by decide) ?_
    refine x_iconst (v := 0) ⟨by decide, by decide⟩ (dtk dt_X12_fair 10 (16, .iconst 0, 1) rfl) ?_
    refine x_istore_n (dtk dt_X12_fair 11 (17, .istore_n 3, 1) rfl) (by decide) ?_
    have L18 : ∀ (fu : Nat) (v3 : Int) (M1 : MM), (0 ≤ v3 ∧ v3 ≤ M 38 o) → (sc M M1) → (rs (M 38 o) (fun a => rs (M 38 o) (fun b => fairV (M 38 o) (dM M o) a b) (a + 1)) v3 = fairF (M 38 o) (dM M o)) → (M 38 o - v3).toNat = fu → MW G mi_X12_fair (rmd 5 0 0) (MZ G (SQ (some (0, if isOr M o then fairF (M 38 o) (dM M o) else -1)) n K M (fun _ => True)) 0 0) (0, 0) 18 [(0, (1, 36)), (1, (0, o)), (2, (0, tl (M 38 o) (dM M o) 0)), (3, (0, v3))] [] n K (M1) := by
      intro fu
      induction fu using Nat.strongRecOn with
      | ind fu ih18 =>
        intro v3 M1 h1 hs h2 hk18
        refine x_iload_n (dtk dt_X12_fair 12 (18, .iload_n 3, 1) rfl) rfl ?_
        refine x_aload_n (dtk dt_X12_fair 13 (19, .aload_n 0, 1) rfl) rfl ?_
        refine fg_X12_13 rfl (dtk dt_X12_fair 14 (20, .getfield 13, 3) rfl) (wk_36 hA.wf) (wm_36_2 (hA.off hs).wf) ?_
        refine x_iload_n (dtk dt_X12_fair 15 (23, .iload_n 1, 1) rfl) rfl ?_
        refine x_iald (dtk dt_X12_fair 16 (24, .iaload, 1) rfl) (wk_38 hA.wf) ⟨by omega, by omega⟩ ?_
        rw [(hA.off hs).sz]
        refine x_icmp_ge (tgt := 119) (dtk dt_X12_fair 17 (25, .if_icmp .ge 94, 3) rfl) (by decide) (fun c25 => ?_) (fun c25 => ?_)
        · skip
          refine x_iconst (v := -1) ⟨by decide, by decide⟩ (dtk dt_X12_fair 70 (119, .iconst (-1), 1) rfl) ?_
          exact rs_i (dtk dt_X12_fair 71 (120, .ireturn, 1) rfl) rfl (by rw [if_pos c5]; rw [rs_e (by omega)] at h2; exact h2) hs trivial
        · skip
          refine x_iload_n (dtk dt_X12_fair 18 (28, .iload_n 3, 1) rfl) rfl ?_
          refine x_iconst (v := 1) ⟨by decide, by decide⟩ (dtk dt_X12_fair 19 (29, .iconst 1, 1) rfl) ?_
          refine y_iadd (dtk dt_X12_fair 20 (30, .iadd, 1) rfl) ⟨by omega, by omega⟩ ?_
          refine x_istore (dtk dt_X12_fair 21 (31, .istore 4, 2) rfl) (by decide) ?_
          have L33 : ∀ (fu : Nat) (v4 : Int) (M2 : MM), (v3 + 1 ≤ v4 ∧ v4 ≤ M 38 o) → (sc M M2) → (oe (rs (M 38 o) (fun b => fairV (M 38 o) (dM M o) v3 b) v4) (rs (M 38 o) (fun a => rs (M 38 o) (fun b => fairV (M 38 o) (dM M o) a b) (a + 1)) (v3 + 1)) = fairF (M 38 o) (dM M o)) → (M 38 o - v4).toNat = fu → MW G mi_X12_fair (rmd 5 0 0) (MZ G (SQ (some (0, if isOr M o then fairF (M 38 o) (dM M o) else -1)) n K M (fun _ => True)) 0 0) (0, 0) 33 [(0, (1, 36)), (1, (0, o)), (2, (0, tl (M 38 o) (dM M o) 0)), (3, (0, v3)), (4, (0, v4))] [] n K (M2) := by
            intro fu
            induction fu using Nat.strongRecOn with
            | ind fu ih33 =>
              intro v4 M2 h3 hs2 h4 hk33
              refine x_iload (dtk dt_X12_fair 22 (33, .iload 4, 2) rfl) rfl ?_
              refine x_aload_n (dtk dt_X12_fair 23 (35, .aload_n 0, 1) rfl) rfl ?_
              refine fg_X12_13 rfl (dtk dt_X12_fair 24 (36, .getfield 13, 3) rfl) (wk_36 hA.wf) (wm_36_2 (hA.off hs2).wf) ?_
              refine x_iload_n (dtk dt_X12_fair 25 (39, .iload_n 1, 1) rfl) rfl ?_
              refine x_iald (dtk dt_X12_fair 26 (40, .iaload, 1) rfl) (wk_38 hA.wf) ⟨by omega, by omega⟩ ?_
              rw [(hA.off hs2).sz]
              refine x_icmp_ge (tgt := 113) (dtk dt_X12_fair 27 (41, .if_icmp .ge 72, 3) rfl) (by decide) (fun c41 => ?_) (fun c41 => ?_)
              · skip
                refine y_iinc (dtk dt_X12_fair 68 (113, .iinc 3 1, 3) rfl) rfl (by decide) ⟨by omega, by omega⟩ ?_
                refine x_goto (tgt := 18) (dtk dt_X12_fair 69 (116, .goto (-98), 3) rfl) (by decide) ?_
                refine MW.sub [1, 2, 3, 0] rfl ?_
                exact ih18 _ (by omega) _ _ (by omega) hs2 (by rw [rs_e (by omega), oe_m] at h4; exact h4) rfl
              · skip
                refine x_aload_n (dtk dt_X12_fair 28 (44, .aload_n 0, 1) rfl) rfl ?_
                refine x_iload_n (dtk dt_X12_fair 29 (45, .iload_n 1, 1) rfl) rfl ?_
                refine x_iload_n (dtk dt_X12_fair 30 (46, .iload_n 3, 1) rfl) rfl ?_
                refine x_iload (dtk dt_X12_fair 31 (47, .iload 4, 2) rfl) rfl ?_
                refine kc_X12_157 rfl (dtk dt_X12_fair 32 (49, .invokevirtual 157, 3) rfl) (c_X12_isApart (G := G)  (hA.off hs2) (by omega) (by omega)) rfl rfl (wk_36 hA.wf) (fitR (by decide) (by decide)) (Nat.le_of_ble_eq_true rfl) (pqK ?_)
                refine x_if_eqB (tgt := 107) (dtk dt_X12_fair 33 (52, .ifCond .eq 55, 3) rfl) (by decide) (fun c52 => ?_) (fun c52 => ?_)
                · skip
                  refine y_iinc (dtk dt_X12_fair 66 (107, .iinc 4 1, 3) rfl) rfl (by decide) ⟨by omega, by omega⟩ ?_
                  refine x_goto (tgt := 33) (dtk dt_X12_fair 67 (110, .goto (-77), 3) rfl) (by decide) ?_
                  refine MW.sub [1, 2, 3, 4, 0] rfl ?_
                  exact ih33 _ (by omega) _ _ (by omega) hs2 (by rw [rs_s (by omega), show fairV (M 38 o) (dM M o) v3 v4 = -1 from by (unfold fairV; rw [if_neg]; simp [c52]; try omega), oe_m] at h4; exact h4) rfl
                · skip
                  refine x_aload_n (dtk dt_X12_fair 34 (55, .aload_n 0, 1) rfl) rfl ?_
                  refine x_iload_n (dtk dt_X12_fair 35 (56, .iload_n 1, 1) rfl) rfl ?_
                  refine x_iload_n (dtk dt_X12_fair 36 (57, .iload_n 3, 1) rfl) rfl ?_
                  refine x_iload (dtk dt_X12_fair 37 (58, .iload 4, 2) rfl) rfl ?_
                  refine kc_X12_160 rfl (dtk dt_X12_fair 38 (60, .invokevirtual 160, 3) rfl) (c_X12_before (G := G)  (hm.off hs2)) rfl rfl (wk_36 hA.wf) (fitR (by decide) (by decide)) (Nat.le_of_ble_eq_true rfl) (sqK (fun M60_2 hs60_2 hE60_2 => ?_))
                  rw [bef_eq hs2 (show isTh M o v3 = true from by (unfold isTh; rw [c5]; simp; omega)) (show isTh M o v4 = true from by (unfold isTh; rw [c5]; simp; omega)) (by omega)]
                  have hlv := ly_b10 (d := dM M o) (a := v3) (b := v4) (s := 0) hsz (by omega)
                  refine x_istore (dtk dt_X12_fair 39 (63, .istore 5, 2) rfl) (by decide) ?_
                  refine x_ldc2 (v := 11) (dtk dt_X12_fair 40 (65, .ldc2_w 164, 3) rfl) ⟨by decide, by decide⟩ w1353 ?_
                  refine x_iload (dtk dt_X12_fair 41 (68, .iload 5, 2) rfl) rfl ?_
                  refine x_i2l (dtk dt_X12_fair 42 (70, .i2l, 1) rfl) ?_
                  refine x_lmul ⟨by omega, by omega⟩ (dtk dt_X12_fair 43 (71, .lmul, 1) rfl) ?_
                  refine x_ldc2 (v := 3) (dtk dt_X12_fair 44 (72, .ldc2_w 166, 3) rfl) ⟨by decide, by decide⟩ w1354 ?_
                  refine x_iload_n (dtk dt_X12_fair 45 (75, .iload_n 2, 1) rfl) rfl ?_
                  refine x_i2l (dtk dt_X12_fair 46 (76, .i2l, 1) rfl) ?_
                  refine x_lmul ⟨by omega, by omega⟩ (dtk dt_X12_fair 47 (77, .lmul, 1) rfl) ?_
                  refine x_lcmp (dtk dt_X12_fair 48 (78, .lcmp, 1) rfl) ?_
                  refine x_if_lt (tgt := 107) (dtk dt_X12_fair 49 (79, .ifCond .lt 28, 3) rfl) (by decide) (fun c79 => ?_) (fun c79 => ?_)
                  · skip
                    rw [zcmp_lt] at c79
                    refine y_iinc (dtk dt_X12_fair 66 (107, .iinc 4 1, 3) rfl) rfl (by decide) ⟨by omega, by omega⟩ ?_
                    refine x_goto (tgt := 33) (dtk dt_X12_fair 67 (110, .goto (-77), 3) rfl) (by decide) ?_
                    refine MW.sub [2, 3, 4, 5, 0] rfl ?_
                    exact ih33 _ (by omega) _ _ (by omega) (hs2.tr hs60_2) (by rw [rs_s (by omega), show fairV (M 38 o) (dM M o) v3 v4 = -1 from by (unfold fairV; rw [if_neg]; simp [c52]; try omega), oe_m] at h4; exact h4) rfl
                  · skip
                    rw [zcmp_lt] at c79
                    refine x_ldc2 (v := 11) (dtk dt_X12_fair 50 (82, .ldc2_w 164, 3) rfl) ⟨by decide, by decide⟩ w1353 ?_
                    refine x_iload (dtk dt_X12_fair 51 (85, .iload 5, 2) rfl) rfl ?_
                    refine x_i2l (dtk dt_X12_fair 52 (87, .i2l, 1) rfl) ?_
                    refine x_lmul ⟨by omega, by omega⟩ (dtk dt_X12_fair 53 (88, .lmul, 1) rfl) ?_
                    refine x_ldc2 (v := 8) (dtk dt_X12_fair 54 (89, .ldc2_w 168, 3) rfl) ⟨by decide, by decide⟩ w1355 ?_
                    refine x_iload_n (dtk dt_X12_fair 55 (92, .iload_n 2, 1) rfl) rfl ?_
                    refine x_i2l (dtk dt_X12_fair 56 (93, .i2l, 1) rfl) ?_
                    refine x_lmul ⟨by omega, by omega⟩ (dtk dt_X12_fair 57 (94, .lmul, 1) rfl) ?_
                    refine x_lcmp (dtk dt_X12_fair 58 (95, .lcmp, 1) rfl) ?_
                    refine x_if_gt (tgt := 107) (dtk dt_X12_fair 59 (96, .ifCond .gt 11, 3) rfl) (by decide) (fun c96 => ?_) (fun c96 => ?_)
                    · skip
                      rw [zcmp_gt] at c96
                      refine y_iinc (dtk dt_X12_fair 66 (107, .iinc 4 1, 3) rfl) rfl (by decide) ⟨by omega, by omega⟩ ?_
                      refine x_goto (tgt := 33) (dtk dt_X12_fair 67 (110, .goto (-77), 3) rfl) (by decide) ?_
                      refine MW.sub [2, 3, 4, 5, 0] rfl ?_
                      exact ih33 _ (by omega) _ _ (by omega) (hs2.tr hs60_2) (by rw [rs_s (by omega), show fairV (M 38 o) (dM M o) v3 v4 = -1 from by (unfold fairV; rw [if_neg]; simp [c52]; try omega), oe_m] at h4; exact h4) rfl
                    · skip
                      rw [zcmp_gt] at c96
                      refine x_bipush (v := 10) ⟨by decide, by decide⟩ (dtk dt_X12_fair 60 (99, .bipush 10, 2) rfl) ?_
                      refine x_iload_n (dtk dt_X12_fair 61 (101, .iload_n 3, 1) rfl) rfl ?_
                      refine y_imul (dtk dt_X12_fair 62 (102, .imul, 1) rfl) ⟨by omega, by omega⟩ ?_
                      refine x_iload (dtk dt_X12_fair 63 (103, .iload 4, 2) rfl) rfl ?_
                      refine y_iadd (dtk dt_X12_fair 64 (105, .iadd, 1) rfl) ⟨by omega, by omega⟩ ?_
                      exact rs_i (dtk dt_X12_fair 65 (106, .ireturn, 1) rfl) rfl (by rw [if_pos c5]; rw [rs_s (by omega), show fairV (M 38 o) (dM M o) v3 v4 = 10 * v3 + v4 from by (unfold fairV; rw [if_pos]; simp [c52]; omega), oe_n (x := 10 * v3 + v4) (by omega), oe_n (x := 10 * v3 + v4) (by omega)] at h4; exact h4) (hs2.tr hs60_2) trivial
          refine MW.sub [1, 2, 3, 4, 0] rfl ?_
          exact L33 _ _ _ (by omega) hs (by rw [rs_s (by omega)] at h2; exact h2) rfl
    refine MW.sub [2, 3, 1, 0] rfl ?_
    exact L18 _ _ _ (by omega) hs12_1 rfl rfl
  · skip
    refine x_iconst (v := -1) ⟨by decide, by decide⟩ (dtk dt_X12_fair 4 (8, .iconst (-1), 1) rfl) ?_
    exact rs_i (dtk dt_X12_fair 5 (9, .ireturn, 1) rfl) rfl (by rw [c5]; rfl) sc.rf trivial
set_option maxRecDepth 100000 in
set_option maxHeartbeats 4000000 in
theorem c_X12_rank {G : GG} {n : Nat} {K : KK} {M : MM}  (hm : MO K M) (hv : HV M) (hp : 0 < M 36 5) : MC G mi_X12_rank 5 0 0 [(1, 36)] n K M (SQ (some (0, (rkS (M 38 (M 36 4)) (dM M (M 36 4)) (M 40) (M 36 5)).1)) n K M (fun _ => True)) := by
  refine MC.intro (lc := [(0, (1, 36))]) (by decide) rfl (by simp [Nat.ble]) (Nat.le_of_ble_eq_true rfl) rfl (fun hMR => ?_)
  have hh := hv.1
  have h00 := hm.2.1
  have h01 := hv.2.1 hp
  have ho : 0 ≤ M 36 4 ∧ M 36 4 < 8 := by omega
  have hA : AT K M (M 36 4) (M 38 (M 36 4)) (dM M (M 36 4)) := ⟨hm, ho, rfl, rfl⟩
  have hsz := hA.ok.1
  have hp2 := p2_b hsz
  refine x_aload_n (dtk dt_X12_rank 0 (0, .aload_n 0, 1) rfl) rfl ?_
  refine x_aload_n (dtk dt_X12_rank 1 (1, .aload_n 0, 1) rfl) rfl ?_
  refine fg_X12_19 rfl (dtk dt_X12_rank 2 (2, .getfield 19, 3) rfl) (wk_36 hA.wf) rfl ?_
  refine kc_X12_149 rfl (dtk dt_X12_rank 3 (5, .invokevirtual 149, 3) rfl) (c_X12_count0 (G := G)  hA) rfl rfl (wk_36 hA.wf) (fitR (by decide) (by decide)) (Nat.le_of_ble_eq_true rfl) (sqK (fun M5_1 hs5_1 hE5_1 => ?_))
  have hE := hE5_1
  refine x_pop rfl (dtk dt_X12_rank 4 (8, .pop, 1) rfl) ?_
  refine x_iconst (v := 0) ⟨by decide, by decide⟩ (dtk dt_X12_rank 5 (9, .iconst 0, 1) rfl) ?_
  refine x_istore_n (dtk dt_X12_rank 6 (10, .istore_n 1, 1) rfl) (by decide) ?_
  refine x_iconst (v := 0) ⟨by decide, by decide⟩ (dtk dt_X12_rank 7 (11, .iconst 0, 1) rfl) ?_
  refine x_istore_n (dtk dt_X12_rank 8 (12, .istore_n 2, 1) rfl) (by decide) ?_
  refine x_iconst (v := 0) ⟨by decide, by decide⟩ (dtk dt_X12_rank 9 (13, .iconst 0, 1) rfl) ?_
  refine x_istore_n (dtk dt_X12_rank 10 (14, .istore_n 3, 1) rfl) (by decide) ?_
  have L15 : ∀ (fu : Nat) (v1 : Int) (v2 : Int) (v3 : Int) (M1 : MM), (0 ≤ v3 ∧ v3 ≤ M 36 5) → (0 ≤ v2 ∧ v2 < p2 (M 38 (M 36 4))) → (rkS (M 38 (M 36 4)) (dM M (M 36 4)) (M 40) v3 = (v1, v2)) → (sc M M1) → (∀ s, 0 ≤ s → s < p2 (M 38 (M 36 4)) → M1 48 s = tl (M 38 (M 36 4)) (dM M (M 36 4)) s) → (M 36 5 - v3).toNat = fu → MW G mi_X12_rank (rmd 5 0 0) (MZ G (SQ (some (0, (rkS (M 38 (M 36 4)) (dM M (M 36 4)) (M 40) (M 36 5)).1)) n K M (fun _ => True)) 0 0) (0, 0) 15 [(0, (1, 36)), (1, (0, v1)), (2, (0, v2)), (3, (0, v3))] [] n K (M1) := by
    intro fu
    induction fu using Nat.strongRecOn with
    | ind fu ih15 =>
      intro v1 v2 v3 M1 h1 h2 h3 hs hL hk15
      refine x_iload_n (dtk dt_X12_rank 11 (15, .iload_n 3, 1) rfl) rfl ?_
      refine x_aload_n (dtk dt_X12_rank 12 (16, .aload_n 0, 1) rfl) rfl ?_
      refine fg_X12_139 rfl (dtk dt_X12_rank 13 (17, .getfield 139, 3) rfl) (wk_36 hA.wf) (v := M 36 5) (by rw [hs 36 (by omega)]) ?_
      refine x_icmp_ge (tgt := 94) (dtk dt_X12_rank 14 (20, .if_icmp .ge 74, 3) rfl) (by decide) (fun c20 => ?_) (fun c20 => ?_)
      · skip
        refine x_iload_n (dtk dt_X12_rank 58 (94, .iload_n 1, 1) rfl) rfl ?_
        exact rs_i (dtk dt_X12_rank 59 (95, .ireturn, 1) rfl) rfl (by rw [show M 36 5 = v3 by omega, h3]) hs trivial
      · skip
        have hk := hv.2.2.1 v3 (by omega) (by omega)
        refine x_iconst (v := 0) ⟨by decide, by decide⟩ (dtk dt_X12_rank 15 (23, .iconst 0, 1) rfl) ?_
        refine x_istore (dtk dt_X12_rank 16 (24, .istore 4, 2) rfl) (by decide) ?_
        have L26 : ∀ (fu : Nat) (w1 : Int) (v4 : Int), (0 ≤ v4 ∧ v4 ≤ M 40 v3) → (w1 = rkI (M 38 (M 36 4)) (dM M (M 36 4)) v2 v1 v4) → (M 40 v3 - v4).toNat = fu → MW G mi_X12_rank (rmd 5 0 0) (MZ G (SQ (some (0, (rkS (M 38 (M 36 4)) (dM M (M 36 4)) (M 40) (M 36 5)).1)) n K M (fun _ => True)) 0 0) (0, 0) 26 [(0, (1, 36)), (1, (0, w1)), (2, (0, v2)), (3, (0, v3)), (4, (0, v4))] [] n K (M1) := by
          intro fu
          induction fu using Nat.strongRecOn with
          | ind fu ih26 =>
            intro w1 v4 g1 g2 hk26
            refine x_iload (dtk dt_X12_rank 17 (26, .iload 4, 2) rfl) rfl ?_
            refine x_aload_n (dtk dt_X12_rank 18 (28, .aload_n 0, 1) rfl) rfl ?_
            refine fg_X12_23 rfl (dtk dt_X12_rank 19 (29, .getfield 23, 3) rfl) (wk_36 hA.wf) (wm_36_6 (hA.off hs).wf) ?_
            refine x_iload_n (dtk dt_X12_rank 20 (32, .iload_n 3, 1) rfl) rfl ?_
            refine x_iald (dtk dt_X12_rank 21 (33, .iaload, 1) rfl) (wk_40 hA.wf) ⟨by omega, by omega⟩ ?_
            rw [hs 40 (by omega)]
            refine x_icmp_ge (tgt := 77) (dtk dt_X12_rank 22 (34, .if_icmp .ge 43, 3) rfl) (by decide) (fun c34 => ?_) (fun c34 => ?_)
            · skip
              refine x_iload_n (dtk dt_X12_rank 47 (77, .iload_n 2, 1) rfl) rfl ?_
              refine x_iconst (v := 1) ⟨by decide, by decide⟩ (dtk dt_X12_rank 48 (78, .iconst 1, 1) rfl) ?_
              refine x_aload_n (dtk dt_X12_rank 49 (79, .aload_n 0, 1) rfl) rfl ?_
              refine fg_X12_23 rfl (dtk dt_X12_rank 50 (80, .getfield 23, 3) rfl) (wk_36 hA.wf) (wm_36_6 (hA.off hs).wf) ?_
              refine x_iload_n (dtk dt_X12_rank 51 (83, .iload_n 3, 1) rfl) rfl ?_
              refine x_iald (dtk dt_X12_rank 52 (84, .iaload, 1) rfl) (wk_40 hA.wf) ⟨by omega, by omega⟩ ?_
              rw [hs 40 (by omega)]
              refine x_ishl (dtk dt_X12_rank 53 (85, .ishl, 1) rfl) ?_
              refine x_ior (dtk dt_X12_rank 54 (86, .ior, 1) rfl) ?_
              change MW G _ _ _ _ _ _ ((0, plus v2 (M 40 v3)) :: _) _ _ _
              refine x_istore_n (dtk dt_X12_rank 55 (87, .istore_n 2, 1) rfl) (by decide) ?_
              refine y_iinc (dtk dt_X12_rank 56 (88, .iinc 3 1, 3) rfl) rfl (by decide) ⟨by omega, by omega⟩ ?_
              refine x_goto (tgt := 15) (dtk dt_X12_rank 57 (91, .goto (-76), 3) rfl) (by decide) ?_
              refine MW.sub [2, 3, 1, 0] rfl ?_
              exact ih15 _ (by omega) _ _ _ _ (by omega) (plus_in hsz h2 (by omega)) (by rw [rkS_s h1.1, h3, g2, show v4 = M 40 v3 by omega]) hs hL rfl
            · skip
              refine x_iload_n (dtk dt_X12_rank 23 (37, .iload_n 1, 1) rfl) rfl ?_
              refine x_aload_n (dtk dt_X12_rank 24 (38, .aload_n 0, 1) rfl) rfl ?_
              refine x_aload_n (dtk dt_X12_rank 25 (39, .aload_n 0, 1) rfl) rfl ?_
              refine fg_X12_19 rfl (dtk dt_X12_rank 26 (40, .getfield 19, 3) rfl) (wk_36 hA.wf) (v := M 36 4) (by rw [hs 36 (by omega)]) ?_
              refine x_iload_n (dtk dt_X12_rank 27 (43, .iload_n 2, 1) rfl) rfl ?_
              refine x_iload (dtk dt_X12_rank 28 (44, .iload 4, 2) rfl) rfl ?_
              refine x_iconst (v := 0) ⟨by decide, by decide⟩ (dtk dt_X12_rank 29 (46, .iconst 0, 1) rfl) ?_
              refine x_iconst (v := 0) ⟨by decide, by decide⟩ (dtk dt_X12_rank 30 (47, .iconst 0, 1) rfl) ?_
              refine kc_X12_142 rfl (dtk dt_X12_rank 31 (48, .invokevirtual 142, 3) rfl) (c_X12_may (G := G)  (hA.off hs) ⟨by omega, by omega⟩ (by omega) (by omega)) rfl rfl (wk_36 hA.wf) (fitR (by decide) (by decide)) (Nat.le_of_ble_eq_true rfl) (pqK ?_)
              change MW G _ _ _ _ _ _ ((0, B (can (dM M (M 36 4)) v2 v4)) :: _) _ _ _
              refine x_if_eqB (tgt := 68) (dtk dt_X12_rank 32 (51, .ifCond .eq 17, 3) rfl) (by decide) (fun c51 => ?_) (fun c51 => ?_)
              · skip
                refine x_iconst (v := 0) ⟨by decide, by decide⟩ (dtk dt_X12_rank 42 (68, .iconst 0, 1) rfl) ?_
                refine w_iadd (dtk dt_X12_rank 43 (69, .iadd, 1) rfl) ?_
                refine x_istore_n (dtk dt_X12_rank 44 (70, .istore_n 1, 1) rfl) (by decide) ?_
                refine y_iinc (dtk dt_X12_rank 45 (71, .iinc 4 1, 3) rfl) rfl (by decide) ⟨by omega, by omega⟩ ?_
                refine x_goto (tgt := 26) (dtk dt_X12_rank 46 (74, .goto (-48), 3) rfl) (by decide) ?_
                refine MW.sub [2, 1, 3, 4, 0] rfl ?_
                exact ih26 _ (by omega) _ _ (by omega) (by rw [rkI_s g1.1, ← g2]; first | (rw [if_pos c51]; done) | (rw [if_neg (by rw [c51]; decide)]; done)) rfl
              · skip
                refine x_aload_n (dtk dt_X12_rank 33 (54, .aload_n 0, 1) rfl) rfl ?_
                refine fg_X12_47 rfl (dtk dt_X12_rank 34 (55, .getfield 47, 3) rfl) (wk_36 hA.wf) (wm_36_17 (hA.off hs).wf) ?_
                refine x_iload_n (dtk dt_X12_rank 35 (58, .iload_n 2, 1) rfl) rfl ?_
                refine x_iconst (v := 1) ⟨by decide, by decide⟩ (dtk dt_X12_rank 36 (59, .iconst 1, 1) rfl) ?_
                refine x_iload (dtk dt_X12_rank 37 (60, .iload 4, 2) rfl) rfl ?_
                refine x_ishl (dtk dt_X12_rank 38 (62, .ishl, 1) rfl) ?_
                refine x_ior (dtk dt_X12_rank 39 (63, .ior, 1) rfl) ?_
                change MW G _ _ _ _ _ _ ((0, plus v2 v4) :: _) _ _ _
                have hpl := plus_in (c := v4) hsz h2 (by omega)
                refine x_iald (dtk dt_X12_rank 40 (64, .iaload, 1) rfl) (wk_48 hA.wf) ⟨by omega, by omega⟩ ?_
                rw [hL _ hpl.1 hpl.2]
                refine x_goto (tgt := 69) (dtk dt_X12_rank 41 (65, .goto 4, 3) rfl) (by decide) ?_
                refine w_iadd (dtk dt_X12_rank 43 (69, .iadd, 1) rfl) ?_
                refine x_istore_n (dtk dt_X12_rank 44 (70, .istore_n 1, 1) rfl) (by decide) ?_
                refine y_iinc (dtk dt_X12_rank 45 (71, .iinc 4 1, 3) rfl) rfl (by decide) ⟨by omega, by omega⟩ ?_
                refine x_goto (tgt := 26) (dtk dt_X12_rank 46 (74, .goto (-48), 3) rfl) (by decide) ?_
                refine MW.sub [2, 1, 3, 4, 0] rfl ?_
                exact ih26 _ (by omega) _ _ (by omega) (by rw [rkI_s g1.1, ← g2]; first | (rw [if_pos c51]; done) | (rw [if_neg (by rw [c51]; decide)]; done)) rfl
        refine MW.sub [1, 2, 3, 4, 0] rfl ?_
        exact L26 _ _ _ (by omega) rfl rfl
  refine MW.sub [3, 2, 1, 0] rfl ?_
  exact L15 _ _ _ _ _ (by omega) (by omega) rfl hs5_1 hE.2 rfl
