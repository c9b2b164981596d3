/-! ===== the model: products, low sets as things, parts ===== -/
set_option maxRecDepth 100000 in
set_option maxHeartbeats 4000000 in
theorem c_X12_times {G : GG} {n : Nat} {K : KK} {M : MM} {o p : Int} (hm : MO K M) : MC G mi_X12_times 3 0 0 [(1, 36), (0, o), (0, p)] n K M (PQ (some (0, if isOr M o && isOr M p then (if M 36 0 < 8 ∧ M 38 o * M 38 p ≤ 10 then M 36 0 else -1) else -1)) n K (if isOr M o && isOr M p then (if M 36 0 < 8 ∧ M 38 o * M 38 p ≤ 10 then crM M 3 (M 38 o * M 38 p) (dblF (M 38 o * M 38 p) (tmP (M 38 p) (dM M o) (dM M p))) else st2 M 36 12 2) else st2 M 36 12 1)) := by
  refine MC.intro (lc := [(0, (1, 36)), (1, (0, o)), (2, (0, p))]) (by decide) rfl (by simp [Nat.ble]) (Nat.le_of_ble_eq_true rfl) rfl (fun hMR => ?_)
  have h0 := hm.2.1
  refine x_aload_n (dtk dt_X12_times 0 (0, .aload_n 0, 1) rfl) rfl ?_
  refine x_iload_n (dtk dt_X12_times 1 (1, .iload_n 1, 1) rfl) rfl ?_
  refine kc_X12_78 rfl (dtk dt_X12_times 2 (2, .invokevirtual 78, 3) rfl) (c_X12_isOrder (G := G)  hm) rfl rfl (wk_36 hm.1) (fitR (by decide) (by decide)) (Nat.le_of_ble_eq_true rfl) (pqK ?_)
  refine x_if_eqB (tgt := 16) (dtk dt_X12_times 3 (5, .ifCond .eq 11, 3) rfl) (by decide) (fun c5 => ?_) (fun c5 => ?_)
  · skip
    refine x_aload_n (dtk dt_X12_times 8 (16, .aload_n 0, 1) rfl) rfl ?_
    refine x_iconst (v := 1) ⟨by decide, by decide⟩ (dtk dt_X12_times 9 (17, .iconst 1, 1) rfl) ?_
    refine kc_X12_89 rfl (dtk dt_X12_times 10 (18, .invokevirtual 89, 3) rfl) (c_X12_refused (G := G)  hm.1) rfl rfl (wk_36 hm.1) (fitR (by decide) (by decide)) (Nat.le_of_ble_eq_true rfl) (pqK ?_)
    exact r_i (dtk dt_X12_times 11 (21, .ireturn, 1) rfl) rfl (by simp_all <;> omega) (by first | (simp_all <;> omega) | (rw [c5, c13]; simp only [Bool.and_self, if_true]; rw [if_pos hsp39_0, show v5 = M 38 o * M 38 p by omega]; exact crM_congr (fun e h0 h1 => dbl_e h0)))
  · skip
    refine x_aload_n (dtk dt_X12_times 4 (8, .aload_n 0, 1) rfl) rfl ?_
    refine x_iload_n (dtk dt_X12_times 5 (9, .iload_n 2, 1) rfl) rfl ?_
    refine kc_X12_78 rfl (dtk dt_X12_times 6 (10, .invokevirtual 78, 3) rfl) (c_X12_isOrder (G := G)  hm) rfl rfl (wk_36 hm.1) (fitR (by decide) (by decide)) (Nat.le_of_ble_eq_true rfl) (pqK ?_)
    refine x_if_neB (tgt := 22) (dtk dt_X12_times 7 (13, .ifCond .ne 9, 3) rfl) (by decide) (fun c13 => ?_) (fun c13 => ?_)
    · skip
      have ho := isOr_of hm c5
      have hp := isOr_of hm c13
      have hA : AT K M o (M 38 o) (dM M o) := ⟨hm, ho, rfl, rfl⟩
      have hB : AT K M p (M 38 p) (dM M p) := ⟨hm, hp, rfl, rfl⟩
      have hz1 := hA.ok.1
      have hz2 := hB.ok.1
      have hor : o < M 36 0 := by (have := c5; unfold isOr at this; simp at this; omega)
      have hpr : p < M 36 0 := by (have := c13; unfold isOr at this; simp at this; omega)
      have hmul : 0 ≤ M 38 o * M 38 p ∧ M 38 o * M 38 p ≤ 100 := ⟨Int.mul_nonneg hz1.1 hz2.1, by (have := Int.mul_le_mul hz1.2 hz2.2 hz2.1 (by omega); omega)⟩
      refine x_aload_n (dtk dt_X12_times 12 (22, .aload_n 0, 1) rfl) rfl ?_
      refine fg_X12_13 rfl (dtk dt_X12_times 13 (23, .getfield 13, 3) rfl) (wk_36 hm.1) (wm_36_2 hm.1) ?_
      refine x_iload_n (dtk dt_X12_times 14 (26, .iload_n 2, 1) rfl) rfl ?_
      refine x_iald (dtk dt_X12_times 15 (27, .iaload, 1) rfl) (wk_38 hm.1) ⟨by omega, by omega⟩ ?_
      refine x_istore_n (dtk dt_X12_times 16 (28, .istore_n 3, 1) rfl) (by decide) ?_
      refine x_aload_n (dtk dt_X12_times 17 (29, .aload_n 0, 1) rfl) rfl ?_
      refine x_iconst (v := 3) ⟨by decide, by decide⟩ (dtk dt_X12_times 18 (30, .iconst 3, 1) rfl) ?_
      refine x_aload_n (dtk dt_X12_times 19 (31, .aload_n 0, 1) rfl) rfl ?_
      refine fg_X12_13 rfl (dtk dt_X12_times 20 (32, .getfield 13, 3) rfl) (wk_36 hm.1) (wm_36_2 hm.1) ?_
      refine x_iload_n (dtk dt_X12_times 21 (35, .iload_n 1, 1) rfl) rfl ?_
      refine x_iald (dtk dt_X12_times 22 (36, .iaload, 1) rfl) (wk_38 hm.1) ⟨by omega, by omega⟩ ?_
      refine x_iload_n (dtk dt_X12_times 23 (37, .iload_n 3, 1) rfl) rfl ?_
      refine y_imul (dtk dt_X12_times 24 (38, .imul, 1) rfl) ⟨by omega, by omega⟩ ?_
      by_cases hsp39_0 : M 36 0 < 8 ∧ M 38 o * M 38 p ≤ 10
      · skip
        have hlt : M 36 0 < 8 := hsp39_0.1
        have hq : 0 ≤ M 38 o * M 38 p ∧ M 38 o * M 38 p ≤ 10 := by omega
        refine kc_X12_100 rfl (dtk dt_X12_times 25 (39, .invokevirtual 100, 3) rfl) (c_X12_newOrder (G := G)  hm (by omega) (by omega)) rfl rfl (wk_36 hm.1) (fitR (by decide) (by decide)) (Nat.le_of_ble_eq_true rfl) (pqK ?_)
        refine x_istore (dtk dt_X12_times 26 (42, .istore 4, 2) rfl) (by decide) ?_
        refine x_iconst (v := 0) ⟨by decide, by decide⟩ (dtk dt_X12_times 27 (44, .iconst 0, 1) rfl) ?_
        refine x_istore (dtk dt_X12_times 28 (45, .istore 5, 2) rfl) (by decide) ?_
        have L47 : ∀ (fu : Nat) (v5 : Int), (0 ≤ v5 ∧ v5 ≤ M 38 o * M 38 p) → (M 38 o * M 38 p - v5).toNat = fu → MW G mi_X12_times (rmd 3 0 0) (MZ G (PQ (some (0, if isOr M o && isOr M p then (if M 36 0 < 8 ∧ M 38 o * M 38 p ≤ 10 then M 36 0 else -1) else -1)) n K (if isOr M o && isOr M p then (if M 36 0 < 8 ∧ M 38 o * M 38 p ≤ 10 then crM M 3 (M 38 o * M 38 p) (dblF (M 38 o * M 38 p) (tmP (M 38 p) (dM M o) (dM M p))) else st2 M 36 12 2) else st2 M 36 12 1)) 0 0) (0, 0) 47 [(0, (1, 36)), (1, (0, o)), (2, (0, p)), (3, (0, M 38 p)), (4, (0, M 36 0)), (5, (0, v5))] [] n K (crM M 3 (M 38 o * M 38 p) (dbl (M 38 o * M 38 p) (tmP (M 38 p) (dM M o) (dM M p)) (v5) (0))) := by
          intro fu
          induction fu using Nat.strongRecOn with
          | ind fu ih47 =>
            intro v5 h1 hk47
            refine x_iload (dtk dt_X12_times 29 (47, .iload 4, 2) rfl) rfl ?_
            refine x_iconst (v := -1) ⟨by decide, by decide⟩ (dtk dt_X12_times 30 (49, .iconst (-1), 1) rfl) ?_
            refine x_icmp_eq (tgt := 201) (dtk dt_X12_times 31 (50, .if_icmp .eq 151, 3) rfl) (by decide) (fun c50 => ?_) (fun c50 => ?_)
            · skip
              exact absurd c50 (by omega)
            · skip
              refine x_iload (dtk dt_X12_times 32 (53, .iload 5, 2) rfl) rfl ?_
              refine x_aload_n (dtk dt_X12_times 33 (55, .aload_n 0, 1) rfl) rfl ?_
              refine fg_X12_13 rfl (dtk dt_X12_times 34 (56, .getfield 13, 3) rfl) (wk_36 hm.1) (wm_36_2 (WF.cr hm.1 _ _ _)) ?_
              refine x_iload (dtk dt_X12_times 35 (59, .iload 4, 2) rfl) rfl ?_
              refine x_iald (dtk dt_X12_times 36 (61, .iaload, 1) rfl) (wk_38 hm.1) ⟨by omega, by omega⟩ ?_
              rw [crM_38o]
              refine x_icmp_ge (tgt := 201) (dtk dt_X12_times 37 (62, .if_icmp .ge 139, 3) rfl) (by decide) (fun c62 => ?_) (fun c62 => ?_)
              · skip
                refine x_iload (dtk dt_X12_times 115 (201, .iload 4, 2) rfl) rfl ?_
                exact r_i (dtk dt_X12_times 116 (203, .ireturn, 1) rfl) rfl (by simp_all <;> omega) (by first | (simp_all <;> omega) | (rw [c5, c13]; simp only [Bool.and_self, if_true]; rw [if_pos hsp39_0, show v5 = M 38 o * M 38 p by omega]; exact crM_congr (fun e h0 h1 => dbl_e h0)))
              · skip
                refine x_iconst (v := 0) ⟨by decide, by decide⟩ (dtk dt_X12_times 38 (65, .iconst 0, 1) rfl) ?_
                refine x_istore (dtk dt_X12_times 39 (66, .istore 6, 2) rfl) (by decide) ?_
                have L68 : ∀ (fu : Nat) (v6 : Int), (0 ≤ v6 ∧ v6 ≤ M 38 o * M 38 p) → (M 38 o * M 38 p - v6).toNat = fu → MW G mi_X12_times (rmd 3 0 0) (MZ G (PQ (some (0, if isOr M o && isOr M p then (if M 36 0 < 8 ∧ M 38 o * M 38 p ≤ 10 then M 36 0 else -1) else -1)) n K (if isOr M o && isOr M p then (if M 36 0 < 8 ∧ M 38 o * M 38 p ≤ 10 then crM M 3 (M 38 o * M 38 p) (dblF (M 38 o * M 38 p) (tmP (M 38 p) (dM M o) (dM M p))) else st2 M 36 12 2) else st2 M 36 12 1)) 0 0) (0, 0) 68 [(0, (1, 36)), (1, (0, o)), (2, (0, p)), (3, (0, M 38 p)), (4, (0, M 36 0)), (5, (0, v5)), (6, (0, v6))] [] n K (crM M 3 (M 38 o * M 38 p) (dbl (M 38 o * M 38 p) (tmP (M 38 p) (dM M o) (dM M p)) (v5) (v6))) := by
                  intro fu
                  induction fu using Nat.strongRecOn with
                  | ind fu ih68 =>
                    intro v6 h3 hk68
                    refine x_iload (dtk dt_X12_times 40 (68, .iload 6, 2) rfl) rfl ?_
                    refine x_aload_n (dtk dt_X12_times 41 (70, .aload_n 0, 1) rfl) rfl ?_
                    refine fg_X12_13 rfl (dtk dt_X12_times 42 (71, .getfield 13, 3) rfl) (wk_36 hm.1) (wm_36_2 (WF.cr hm.1 _ _ _)) ?_
                    refine x_iload (dtk dt_X12_times 43 (74, .iload 4, 2) rfl) rfl ?_
                    refine x_iald (dtk dt_X12_times 44 (76, .iaload, 1) rfl) (wk_38 hm.1) ⟨by omega, by omega⟩ ?_
                    rw [crM_38o]
                    refine x_icmp_ge (tgt := 195) (dtk dt_X12_times 45 (77, .if_icmp .ge 118, 3) rfl) (by decide) (fun c77 => ?_) (fun c77 => ?_)
                    · skip
                      refine y_iinc (dtk dt_X12_times 113 (195, .iinc 5 1, 3) rfl) rfl (by decide) ⟨by omega, by omega⟩ ?_
                      refine x_goto (tgt := 47) (dtk dt_X12_times 114 (198, .goto (-151), 3) rfl) (by decide) ?_
                      refine MW.sub [1, 2, 3, 4, 5, 0] rfl ?_
                      refine MW.mem (crM_congr (g := dbl (M 38 o * M 38 p) (tmP (M 38 p) (dM M o) (dM M p)) (v5 + 1) 0) (fun e h0 h1 => dbl_n (by omega) h0)) ?_
                      exact ih47 _ (by omega) _ (by omega) rfl
                    · skip
                      have hn1 : 1 ≤ M 38 p := by (by_cases hz : M 38 p = 0; (rw [hz, Int.mul_zero] at c62; omega); omega)
                      have e5 : 0 ≤ v5 / M 38 p ∧ v5 / M 38 p < M 38 o := ⟨Int.ediv_nonneg (by omega) (by omega), Int.ediv_lt_of_lt_mul (by omega) (by omega)⟩
                      have e6 : 0 ≤ v6 / M 38 p ∧ v6 / M 38 p < M 38 o := ⟨Int.ediv_nonneg (by omega) (by omega), Int.ediv_lt_of_lt_mul (by omega) (by omega)⟩
                      have f5 : 0 ≤ v5 % M 38 p ∧ v5 % M 38 p < M 38 p := ⟨Int.emod_nonneg _ (by omega), Int.emod_lt_of_pos _ (by omega)⟩
                      have f6 : 0 ≤ v6 % M 38 p ∧ v6 % M 38 p < M 38 p := ⟨Int.emod_nonneg _ (by omega), Int.emod_lt_of_pos _ (by omega)⟩
                      have hx := hA.crx (k := 3) (q := M 38 o * M 38 p) (f := dbl (M 38 o * M 38 p) (tmP (M 38 p) (dM M o) (dM M p)) v5 v6) hor hlt hq (fun e h0 h1 => dbl_b hq (by omega) e)
                      have hy := hB.crx (k := 3) (q := M 38 o * M 38 p) (f := dbl (M 38 o * M 38 p) (tmP (M 38 p) (dM M o) (dM M p)) v5 v6) hpr hlt hq (fun e h0 h1 => dbl_b hq (by omega) e)
                      have J112_22 : ∀ (j7 : Bool), (j7 = (decide (v5 / M 38 p = v6 / M 38 p) || rel (dM M o) (v5 / M 38 p) (v6 / M 38 p))) → MW G mi_X12_times (rmd 3 0 0) (MZ G (PQ (some (0, if isOr M o && isOr M p then (if M 36 0 < 8 ∧ M 38 o * M 38 p ≤ 10 then M 36 0 else -1) else -1)) n K (if isOr M o && isOr M p then (if M 36 0 < 8 ∧ M 38 o * M 38 p ≤ 10 then crM M 3 (M 38 o * M 38 p) (dblF (M 38 o * M 38 p) (tmP (M 38 p) (dM M o) (dM M p))) else st2 M 36 12 2) else st2 M 36 12 1)) 0 0) (0, 0) 112 [(0, (1, 36)), (1, (0, o)), (2, (0, p)), (3, (0, M 38 p)), (4, (0, M 36 0)), (5, (0, v5)), (6, (0, v6))] [(0, B j7)] n K (crM M 3 (M 38 o * M 38 p) (dbl (M 38 o * M 38 p) (tmP (M 38 p) (dM M o) (dM M p)) (v5) (v6))) := by
                        intro j7 hJ1
                        refine x_istore (dtk dt_X12_times 66 (112, .istore 7, 2) rfl) (by decide) ?_
                        have J146_24 : ∀ (j8 : Bool), (j8 = (decide (v5 % M 38 p = v6 % M 38 p) || rel (dM M p) (v5 % M 38 p) (v6 % M 38 p))) → MW G mi_X12_times (rmd 3 0 0) (MZ G (PQ (some (0, if isOr M o && isOr M p then (if M 36 0 < 8 ∧ M 38 o * M 38 p ≤ 10 then M 36 0 else -1) else -1)) n K (if isOr M o && isOr M p then (if M 36 0 < 8 ∧ M 38 o * M 38 p ≤ 10 then crM M 3 (M 38 o * M 38 p) (dblF (M 38 o * M 38 p) (tmP (M 38 p) (dM M o) (dM M p))) else st2 M 36 12 2) else st2 M 36 12 1)) 0 0) (0, 0) 146 [(0, (1, 36)), (1, (0, o)), (2, (0, p)), (3, (0, M 38 p)), (4, (0, M 36 0)), (5, (0, v5)), (6, (0, v6)), (7, (0, B (j7)))] [(0, B j8)] n K (crM M 3 (M 38 o * M 38 p) (dbl (M 38 o * M 38 p) (tmP (M 38 p) (dM M o) (dM M p)) (v5) (v6))) := by
                          intro j8 hJ2
                          refine x_istore (dtk dt_X12_times 87 (146, .istore 8, 2) rfl) (by decide) ?_
                          refine x_aload_n (dtk dt_X12_times 88 (148, .aload_n 0, 1) rfl) rfl ?_
                          refine fg_X12_16 rfl (dtk dt_X12_times 89 (149, .getfield 16, 3) rfl) (wk_36 hm.1) (wm_36_3 (WF.cr hm.1 _ _ _)) ?_
                          refine x_bipush (v := 10) ⟨by decide, by decide⟩ (dtk dt_X12_times 90 (152, .bipush 10, 2) rfl) ?_
                          refine x_iload (dtk dt_X12_times 91 (154, .iload 4, 2) rfl) rfl ?_
                          refine y_imul (dtk dt_X12_times 92 (156, .imul, 1) rfl) ⟨by omega, by omega⟩ ?_
                          refine x_iload (dtk dt_X12_times 93 (157, .iload 6, 2) rfl) rfl ?_
                          refine y_iadd (dtk dt_X12_times 94 (159, .iadd, 1) rfl) ⟨by omega, by omega⟩ ?_
                          refine x_dup2 rfl rfl (dtk dt_X12_times 95 (160, .dup2, 1) rfl) ?_
                          refine x_iald (dtk dt_X12_times 96 (161, .iaload, 1) rfl) (wk_39 hm.1) ⟨by omega, by omega⟩ ?_
                          rw [crM_39o _ _ _ _ (by omega)]
                          refine x_iload (dtk dt_X12_times 97 (162, .iload 5, 2) rfl) rfl ?_
                          refine x_iload (dtk dt_X12_times 98 (164, .iload 6, 2) rfl) rfl ?_
                          refine x_icmp_eq (tgt := 186) (dtk dt_X12_times 99 (166, .if_icmp .eq 20, 3) rfl) (by decide) (fun c166 => ?_) (fun c166 => ?_)
                          · skip
                            refine x_iconst (v := 0) ⟨by decide, by decide⟩ (dtk dt_X12_times 108 (186, .iconst 0, 1) rfl) ?_
                            refine x_ior (dtk dt_X12_times 109 (187, .ior, 1) rfl) ?_
                            refine x_iast (dtk dt_X12_times 110 (188, .iastore, 1) rfl) (wk_39 hm.1) ⟨by omega, by omega⟩ ?_
                            refine y_iinc (dtk dt_X12_times 111 (189, .iinc 6 1, 3) rfl) rfl (by decide) ⟨by omega, by omega⟩ ?_
                            refine x_goto (tgt := 68) (dtk dt_X12_times 112 (192, .goto (-124), 3) rfl) (by decide) ?_
                            refine MW.sub [2, 3, 4, 5, 6, 7, 0] rfl ?_
                            have hP : tmP (M 38 p) (dM M o) (dM M p) v5 v6 = (decide (v5 ≠ v6) && j7 && j8) := by (rw [hJ1, hJ2]; rfl)
                            first | refine MW.mem (crM_dT (P := (tmP (M 38 p) (dM M o) (dM M p))) (by omega) hq.2 (by omega) (by rw [hP]; clear ih47 ih68; simp_all)) ?_ | refine MW.mem (crM_dF (P := (tmP (M 38 p) (dM M o) (dM M p))) (by omega) hq.2 (by omega) (by rw [hP]; clear ih47 ih68; simp_all)) ?_
                            exact ih68 _ (by omega) _ (by omega) rfl
                          · skip
                            refine x_iload (dtk dt_X12_times 100 (169, .iload 7, 2) rfl) rfl ?_
                            refine x_if_eqB (tgt := 186) (dtk dt_X12_times 101 (171, .ifCond .eq 15, 3) rfl) (by decide) (fun c171 => ?_) (fun c171 => ?_)
                            · skip
                              refine x_iconst (v := 0) ⟨by decide, by decide⟩ (dtk dt_X12_times 108 (186, .iconst 0, 1) rfl) ?_
                              refine x_ior (dtk dt_X12_times 109 (187, .ior, 1) rfl) ?_
                              refine x_iast (dtk dt_X12_times 110 (188, .iastore, 1) rfl) (wk_39 hm.1) ⟨by omega, by omega⟩ ?_
                              refine y_iinc (dtk dt_X12_times 111 (189, .iinc 6 1, 3) rfl) rfl (by decide) ⟨by omega, by omega⟩ ?_
                              refine x_goto (tgt := 68) (dtk dt_X12_times 112 (192, .goto (-124), 3) rfl) (by decide) ?_
                              refine MW.sub [2, 3, 4, 5, 6, 7, 0] rfl ?_
                              have hP : tmP (M 38 p) (dM M o) (dM M p) v5 v6 = (decide (v5 ≠ v6) && j7 && j8) := by (rw [hJ1, hJ2]; rfl)
                              first | refine MW.mem (crM_dT (P := (tmP (M 38 p) (dM M o) (dM M p))) (by omega) hq.2 (by omega) (by rw [hP]; clear ih47 ih68; simp_all)) ?_ | refine MW.mem (crM_dF (P := (tmP (M 38 p) (dM M o) (dM M p))) (by omega) hq.2 (by omega) (by rw [hP]; clear ih47 ih68; simp_all)) ?_
                              exact ih68 _ (by omega) _ (by omega) rfl
                            · skip
                              refine x_iload (dtk dt_X12_times 102 (174, .iload 8, 2) rfl) rfl ?_
                              refine x_if_eqB (tgt := 186) (dtk dt_X12_times 103 (176, .ifCond .eq 10, 3) rfl) (by decide) (fun c176 => ?_) (fun c176 => ?_)
                              · skip
                                refine x_iconst (v := 0) ⟨by decide, by decide⟩ (dtk dt_X12_times 108 (186, .iconst 0, 1) rfl) ?_
                                refine x_ior (dtk dt_X12_times 109 (187, .ior, 1) rfl) ?_
                                refine x_iast (dtk dt_X12_times 110 (188, .iastore, 1) rfl) (wk_39 hm.1) ⟨by omega, by omega⟩ ?_
                                refine y_iinc (dtk dt_X12_times 111 (189, .iinc 6 1, 3) rfl) rfl (by decide) ⟨by omega, by omega⟩ ?_
                                refine x_goto (tgt := 68) (dtk dt_X12_times 112 (192, .goto (-124), 3) rfl) (by decide) ?_
                                refine MW.sub [2, 3, 4, 5, 6, 7, 0] rfl ?_
                                have hP : tmP (M 38 p) (dM M o) (dM M p) v5 v6 = (decide (v5 ≠ v6) && j7 && j8) := by (rw [hJ1, hJ2]; rfl)
                                first | refine MW.mem (crM_dT (P := (tmP (M 38 p) (dM M o) (dM M p))) (by omega) hq.2 (by omega) (by rw [hP]; clear ih47 ih68; simp_all)) ?_ | refine MW.mem (crM_dF (P := (tmP (M 38 p) (dM M o) (dM M p))) (by omega) hq.2 (by omega) (by rw [hP]; clear ih47 ih68; simp_all)) ?_
                                exact ih68 _ (by omega) _ (by omega) rfl
                              · skip
                                refine x_iconst (v := 1) ⟨by decide, by decide⟩ (dtk dt_X12_times 104 (179, .iconst 1, 1) rfl) ?_
                                refine x_iload (dtk dt_X12_times 105 (180, .iload 5, 2) rfl) rfl ?_
                                refine x_ishl (dtk dt_X12_times 106 (182, .ishl, 1) rfl) ?_
                                refine x_goto (tgt := 187) (dtk dt_X12_times 107 (183, .goto 4, 3) rfl) (by decide) ?_
                                refine x_ior (dtk dt_X12_times 109 (187, .ior, 1) rfl) ?_
                                refine x_iast (dtk dt_X12_times 110 (188, .iastore, 1) rfl) (wk_39 hm.1) ⟨by omega, by omega⟩ ?_
                                refine y_iinc (dtk dt_X12_times 111 (189, .iinc 6 1, 3) rfl) rfl (by decide) ⟨by omega, by omega⟩ ?_
                                refine x_goto (tgt := 68) (dtk dt_X12_times 112 (192, .goto (-124), 3) rfl) (by decide) ?_
                                refine MW.sub [2, 3, 4, 5, 6, 7, 0] rfl ?_
                                have hP : tmP (M 38 p) (dM M o) (dM M p) v5 v6 = (decide (v5 ≠ v6) && j7 && j8) := by (rw [hJ1, hJ2]; rfl)
                                first | refine MW.mem (crM_dT (P := (tmP (M 38 p) (dM M o) (dM M p))) (by omega) hq.2 (by omega) (by rw [hP]; clear ih47 ih68; simp_all)) ?_ | refine MW.mem (crM_dF (P := (tmP (M 38 p) (dM M o) (dM M p))) (by omega) hq.2 (by omega) (by rw [hP]; clear ih47 ih68; simp_all)) ?_
                                exact ih68 _ (by omega) _ (by omega) rfl
                        refine x_iload (dtk dt_X12_times 67 (114, .iload 5, 2) rfl) rfl ?_
                        refine x_iload_n (dtk dt_X12_times 68 (116, .iload_n 3, 1) rfl) rfl ?_
                        refine x_irem (by omega) (dtk dt_X12_times 69 (117, .irem, 1) rfl) ?_
                        rw [Int.tmod_eq_emod_of_nonneg (show 0 ≤ v5 by omega)]
                        refine x_iload (dtk dt_X12_times 70 (118, .iload 6, 2) rfl) rfl ?_
                        refine x_iload_n (dtk dt_X12_times 71 (120, .iload_n 3, 1) rfl) rfl ?_
                        refine x_irem (by omega) (dtk dt_X12_times 72 (121, .irem, 1) rfl) ?_
                        rw [Int.tmod_eq_emod_of_nonneg (show 0 ≤ v6 by omega)]
                        refine x_icmp_eq (tgt := 141) (dtk dt_X12_times 73 (122, .if_icmp .eq 19, 3) rfl) (by decide) (fun c122 => ?_) (fun c122 => ?_)
                        · skip
                          refine x_iconst (v := 1) ⟨by decide, by decide⟩ (dtk dt_X12_times 84 (141, .iconst 1, 1) rfl) ?_
                          refine x_goto (tgt := 146) (dtk dt_X12_times 85 (142, .goto 4, 3) rfl) (by decide) ?_
                          refine MW.sub [1, 2, 3, 4, 5, 6, 7, 0] rfl ?_
                          exact J146_24 true (by clear ih47 ih68 J146_24; simp_all)
                        · skip
                          refine x_aload_n (dtk dt_X12_times 74 (125, .aload_n 0, 1) rfl) rfl ?_
                          refine x_iload_n (dtk dt_X12_times 75 (126, .iload_n 2, 1) rfl) rfl ?_
                          refine x_iload (dtk dt_X12_times 76 (127, .iload 5, 2) rfl) rfl ?_
                          refine x_iload_n (dtk dt_X12_times 77 (129, .iload_n 3, 1) rfl) rfl ?_
                          refine x_irem (by omega) (dtk dt_X12_times 78 (130, .irem, 1) rfl) ?_
                          rw [Int.tmod_eq_emod_of_nonneg (show 0 ≤ v5 by omega)]
                          refine x_iload (dtk dt_X12_times 79 (131, .iload 6, 2) rfl) rfl ?_
                          refine x_iload_n (dtk dt_X12_times 80 (133, .iload_n 3, 1) rfl) rfl ?_
                          refine x_irem (by omega) (dtk dt_X12_times 81 (134, .irem, 1) rfl) ?_
                          rw [Int.tmod_eq_emod_of_nonneg (show 0 ≤ v6 by omega)]
                          refine kc_X12_86 rfl (dtk dt_X12_times 82 (135, .invokevirtual 86, 3) rfl) (c_X12_isBelow (G := G)  hy.1 (by omega) (by omega)) rfl rfl (wk_36 hm.1) (fitR (by decide) (by decide)) (Nat.le_of_ble_eq_true rfl) (pqK ?_)
                          rw [rel_eq hy.2 (by omega)]
                          refine x_if_eqB (tgt := 145) (dtk dt_X12_times 83 (138, .ifCond .eq 7, 3) rfl) (by decide) (fun c138 => ?_) (fun c138 => ?_)
                          · skip
                            refine x_iconst (v := 0) ⟨by decide, by decide⟩ (dtk dt_X12_times 86 (145, .iconst 0, 1) rfl) ?_
                            refine MW.sub [1, 2, 3, 4, 5, 6, 7, 0] rfl ?_
                            exact J146_24 false (by clear ih47 ih68 J146_24; simp_all)
                          · skip
                            refine x_iconst (v := 1) ⟨by decide, by decide⟩ (dtk dt_X12_times 84 (141, .iconst 1, 1) rfl) ?_
                            refine x_goto (tgt := 146) (dtk dt_X12_times 85 (142, .goto 4, 3) rfl) (by decide) ?_
                            refine MW.sub [1, 2, 3, 4, 5, 6, 7, 0] rfl ?_
                            exact J146_24 true (by clear ih47 ih68 J146_24; simp_all)
                      refine x_iload (dtk dt_X12_times 46 (80, .iload 5, 2) rfl) rfl ?_
                      refine x_iload_n (dtk dt_X12_times 47 (82, .iload_n 3, 1) rfl) rfl ?_
                      refine x_idiv (by omega) (by omega) (dtk dt_X12_times 48 (83, .idiv, 1) rfl) ?_
                      rw [Int.tdiv_eq_ediv_of_nonneg (show 0 ≤ v5 by omega)]
                      refine x_iload (dtk dt_X12_times 49 (84, .iload 6, 2) rfl) rfl ?_
                      refine x_iload_n (dtk dt_X12_times 50 (86, .iload_n 3, 1) rfl) rfl ?_
                      refine x_idiv (by omega) (by omega) (dtk dt_X12_times 51 (87, .idiv, 1) rfl) ?_
                      rw [Int.tdiv_eq_ediv_of_nonneg (show 0 ≤ v6 by omega)]
                      refine x_icmp_eq (tgt := 107) (dtk dt_X12_times 52 (88, .if_icmp .eq 19, 3) rfl) (by decide) (fun c88 => ?_) (fun c88 => ?_)
                      · skip
                        refine x_iconst (v := 1) ⟨by decide, by decide⟩ (dtk dt_X12_times 63 (107, .iconst 1, 1) rfl) ?_
                        refine x_goto (tgt := 112) (dtk dt_X12_times 64 (108, .goto 4, 3) rfl) (by decide) ?_
                        refine MW.sub [0, 1, 2, 3, 4, 5, 6] rfl ?_
                        exact J112_22 true (by clear ih47 ih68 J112_22; simp_all)
                      · skip
                        refine x_aload_n (dtk dt_X12_times 53 (91, .aload_n 0, 1) rfl) rfl ?_
                        refine x_iload_n (dtk dt_X12_times 54 (92, .iload_n 1, 1) rfl) rfl ?_
                        refine x_iload (dtk dt_X12_times 55 (93, .iload 5, 2) rfl) rfl ?_
                        refine x_iload_n (dtk dt_X12_times 56 (95, .iload_n 3, 1) rfl) rfl ?_
                        refine x_idiv (by omega) (by omega) (dtk dt_X12_times 57 (96, .idiv, 1) rfl) ?_
                        rw [Int.tdiv_eq_ediv_of_nonneg (show 0 ≤ v5 by omega)]
                        refine x_iload (dtk dt_X12_times 58 (97, .iload 6, 2) rfl) rfl ?_
                        refine x_iload_n (dtk dt_X12_times 59 (99, .iload_n 3, 1) rfl) rfl ?_
                        refine x_idiv (by omega) (by omega) (dtk dt_X12_times 60 (100, .idiv, 1) rfl) ?_
                        rw [Int.tdiv_eq_ediv_of_nonneg (show 0 ≤ v6 by omega)]
                        refine kc_X12_86 rfl (dtk dt_X12_times 61 (101, .invokevirtual 86, 3) rfl) (c_X12_isBelow (G := G)  hx.1 (by omega) (by omega)) rfl rfl (wk_36 hm.1) (fitR (by decide) (by decide)) (Nat.le_of_ble_eq_true rfl) (pqK ?_)
                        rw [rel_eq hx.2 (by omega)]
                        refine x_if_eqB (tgt := 111) (dtk dt_X12_times 62 (104, .ifCond .eq 7, 3) rfl) (by decide) (fun c104 => ?_) (fun c104 => ?_)
                        · skip
                          refine x_iconst (v := 0) ⟨by decide, by decide⟩ (dtk dt_X12_times 65 (111, .iconst 0, 1) rfl) ?_
                          refine MW.sub [0, 1, 2, 3, 4, 5, 6] rfl ?_
                          exact J112_22 false (by clear ih47 ih68 J112_22; simp_all)
                        · skip
                          refine x_iconst (v := 1) ⟨by decide, by decide⟩ (dtk dt_X12_times 63 (107, .iconst 1, 1) rfl) ?_
                          refine x_goto (tgt := 112) (dtk dt_X12_times 64 (108, .goto 4, 3) rfl) (by decide) ?_
                          refine MW.sub [0, 1, 2, 3, 4, 5, 6] rfl ?_
                          exact J112_22 true (by clear ih47 ih68 J112_22; simp_all)
                refine MW.sub [1, 2, 3, 4, 5, 6, 0] rfl ?_
                exact L68 _ _ (by omega) rfl
        refine MW.sub [3, 4, 5, 2, 1, 0] rfl ?_
        refine MW.mem (crM_congr (g := dbl (M 38 o * M 38 p) (tmP (M 38 p) (dM M o) (dM M p)) 0 0) (fun e h0 h1 => dbl_0 _ _ h0)) ?_
        exact L47 _ _ (by omega) rfl
      refine kc_X12_100 rfl (dtk dt_X12_times 25 (39, .invokevirtual 100, 3) rfl) (c_X12_newOrder_no (G := G)  hm (by omega)) rfl rfl (wk_36 hm.1) (fitR (by decide) (by decide)) (Nat.le_of_ble_eq_true rfl) (pqK ?_)
      refine x_istore (dtk dt_X12_times 26 (42, .istore 4, 2) rfl) (by decide) ?_
      refine x_iconst (v := 0) ⟨by decide, by decide⟩ (dtk dt_X12_times 27 (44, .iconst 0, 1) rfl) ?_
      refine x_istore (dtk dt_X12_times 28 (45, .istore 5, 2) rfl) (by decide) ?_
      refine x_iload (dtk dt_X12_times 29 (47, .iload 4, 2) rfl) rfl ?_
      refine x_iconst (v := -1) ⟨by decide, by decide⟩ (dtk dt_X12_times 30 (49, .iconst (-1), 1) rfl) ?_
      refine x_icmp_eq (tgt := 201) (dtk dt_X12_times 31 (50, .if_icmp .eq 151, 3) rfl) (by decide) (fun c50 => ?_) (fun c50 => ?_)
      rotate_left
      · exact absurd (by decide) c50
      refine x_iload (dtk dt_X12_times 115 (201, .iload 4, 2) rfl) rfl ?_
      exact r_i (dtk dt_X12_times 116 (203, .ireturn, 1) rfl) rfl (by simp_all <;> omega) (by first | (simp_all <;> omega) | (rw [c5, c13]; simp only [Bool.and_self, if_true]; rw [if_pos hsp39_0, show v5 = M 38 o * M 38 p by omega]; exact crM_congr (fun e h0 h1 => dbl_e h0)))
    · skip
      refine x_aload_n (dtk dt_X12_times 8 (16, .aload_n 0, 1) rfl) rfl ?_
      refine x_iconst (v := 1) ⟨by decide, by decide⟩ (dtk dt_X12_times 9 (17, .iconst 1, 1) rfl) ?_
      refine kc_X12_89 rfl (dtk dt_X12_times 10 (18, .invokevirtual 89, 3) rfl) (c_X12_refused (G := G)  hm.1) rfl rfl (wk_36 hm.1) (fitR (by decide) (by decide)) (Nat.le_of_ble_eq_true rfl) (pqK ?_)
      exact r_i (dtk dt_X12_times 11 (21, .ireturn, 1) rfl) rfl (by simp_all <;> omega) (by first | (simp_all <;> omega) | (rw [c5, c13]; simp only [Bool.and_self, if_true]; rw [if_pos hsp39_0, show v5 = M 38 o * M 38 p by omega]; exact crM_congr (fun e h0 h1 => dbl_e h0)))
set_option maxRecDepth 100000 in
set_option maxHeartbeats 4000000 in
theorem c_X12_held {G : GG} {n : Nat} {K : KK} {M : MM} {o : Int} (hm : MO K M) : MC G mi_X12_held 4 0 0 [(1, 36), (0, o)] n K M (PQ (some (0, if isOr M o then (if M 36 0 < 8 ∧ lowN (M 38 o) (dM M o) ≤ 10 then M 36 0 else -1) else -1)) n K (if isOr M o then (if M 36 0 < 8 ∧ lowN (M 38 o) (dM M o) ≤ 10 then crM M 4 (lowN (M 38 o) (dM M o)) (dblF (lowN (M 38 o) (dM M o)) (hdP (M 38 o) (dM M o))) else st2 M 36 12 2) else st2 M 36 12 1)) := by
  refine MC.intro (lc := [(0, (1, 36)), (1, (0, o))]) (by decide) rfl (by simp [Nat.ble]) (Nat.le_of_ble_eq_true rfl) rfl (fun hMR => ?_)
  have h0 := hm.2.1
  refine x_aload_n (dtk dt_X12_held 0 (0, .aload_n 0, 1) rfl) rfl ?_
  refine x_iload_n (dtk dt_X12_held 1 (1, .iload_n 1, 1) rfl) rfl ?_
  refine kc_X12_78 rfl (dtk dt_X12_held 2 (2, .invokevirtual 78, 3) rfl) (c_X12_isOrder (G := G)  hm) rfl rfl (wk_36 hm.1) (fitR (by decide) (by decide)) (Nat.le_of_ble_eq_true rfl) (pqK ?_)
  refine x_if_neB (tgt := 14) (dtk dt_X12_held 3 (5, .ifCond .ne 9, 3) rfl) (by decide) (fun c5 => ?_) (fun c5 => ?_)
  · skip
    have ho := isOr_of hm c5
    have hA : AT K M o (M 38 o) (dM M o) := ⟨hm, ho, rfl, rfl⟩
    have hq := hA.ok.1
    have hz := hA.ok.1
    clear hq
    have hlb := sumZ_b01 (n := p2 (M 38 o)) (by have := p2_b hz; omega) (low (M 38 o) (dM M o))
    change 0 ≤ lowN (M 38 o) (dM M o) ∧ lowN (M 38 o) (dM M o) ≤ _ at hlb
    have hor : o < M 36 0 := by (have := c5; unfold isOr at this; simp at this; omega)
    refine x_aload_n (dtk dt_X12_held 8 (14, .aload_n 0, 1) rfl) rfl ?_
    refine x_iconst (v := 4) ⟨by decide, by decide⟩ (dtk dt_X12_held 9 (15, .iconst 4, 1) rfl) ?_
    refine x_aload_n (dtk dt_X12_held 10 (16, .aload_n 0, 1) rfl) rfl ?_
    refine x_iload_n (dtk dt_X12_held 11 (17, .iload_n 1, 1) rfl) rfl ?_
    refine kc_X12_127 rfl (dtk dt_X12_held 12 (18, .invokevirtual 127, 3) rfl) (c_X12_lowSets (G := G)  hA) rfl rfl (wk_36 hm.1) (fitR (by decide) (by decide)) (Nat.le_of_ble_eq_true rfl) (pqK ?_)
    by_cases hsp21_0 : M 36 0 < 8 ∧ lowN (M 38 o) (dM M o) ≤ 10
    · skip
      have hlt : M 36 0 < 8 := hsp21_0.1
      have hq : 0 ≤ lowN (M 38 o) (dM M o) ∧ lowN (M 38 o) (dM M o) ≤ 10 := by omega
      refine kc_X12_100 rfl (dtk dt_X12_held 13 (21, .invokevirtual 100, 3) rfl) (c_X12_newOrder (G := G)  hm (by omega) (by omega)) rfl rfl (wk_36 hm.1) (fitR (by decide) (by decide)) (Nat.le_of_ble_eq_true rfl) (pqK ?_)
      refine x_istore_n (dtk dt_X12_held 14 (24, .istore_n 2, 1) rfl) (by decide) ?_
      refine x_iconst (v := 0) ⟨by decide, by decide⟩ (dtk dt_X12_held 15 (25, .iconst 0, 1) rfl) ?_
      refine x_istore_n (dtk dt_X12_held 16 (26, .istore_n 3, 1) rfl) (by decide) ?_
      have L27 : ∀ (fu : Nat) (v3 : Int), (0 ≤ v3 ∧ v3 ≤ lowN (M 38 o) (dM M o)) → (lowN (M 38 o) (dM M o) - v3).toNat = fu → MW G mi_X12_held (rmd 4 0 0) (MZ G (PQ (some (0, if isOr M o then (if M 36 0 < 8 ∧ lowN (M 38 o) (dM M o) ≤ 10 then M 36 0 else -1) else -1)) n K (if isOr M o then (if M 36 0 < 8 ∧ lowN (M 38 o) (dM M o) ≤ 10 then crM M 4 (lowN (M 38 o) (dM M o)) (dblF (lowN (M 38 o) (dM M o)) (hdP (M 38 o) (dM M o))) else st2 M 36 12 2) else st2 M 36 12 1)) 0 0) (0, 0) 27 [(0, (1, 36)), (1, (0, o)), (2, (0, M 36 0)), (3, (0, v3))] [] n K (crM M 4 (lowN (M 38 o) (dM M o)) (dbl (lowN (M 38 o) (dM M o)) (hdP (M 38 o) (dM M o)) (v3) (0))) := by
        intro fu
        induction fu using Nat.strongRecOn with
        | ind fu ih27 =>
          intro v3 h1 hk27
          refine x_iload_n (dtk dt_X12_held 17 (27, .iload_n 2, 1) rfl) rfl ?_
          refine x_iconst (v := -1) ⟨by decide, by decide⟩ (dtk dt_X12_held 18 (28, .iconst (-1), 1) rfl) ?_
          refine x_icmp_eq (tgt := 127) (dtk dt_X12_held 19 (29, .if_icmp .eq 98, 3) rfl) (by decide) (fun c29 => ?_) (fun c29 => ?_)
          · skip
            exact absurd c29 (by omega)
          · skip
            refine x_iload_n (dtk dt_X12_held 20 (32, .iload_n 3, 1) rfl) rfl ?_
            refine x_aload_n (dtk dt_X12_held 21 (33, .aload_n 0, 1) rfl) rfl ?_
            refine fg_X12_13 rfl (dtk dt_X12_held 22 (34, .getfield 13, 3) rfl) (wk_36 hm.1) (wm_36_2 (WF.cr hm.1 _ _ _)) ?_
            refine x_iload_n (dtk dt_X12_held 23 (37, .iload_n 2, 1) rfl) rfl ?_
            refine x_iald (dtk dt_X12_held 24 (38, .iaload, 1) rfl) (wk_38 hm.1) ⟨by omega, by omega⟩ ?_
            rw [crM_38o]
            refine x_icmp_ge (tgt := 127) (dtk dt_X12_held 25 (39, .if_icmp .ge 88, 3) rfl) (by decide) (fun c39 => ?_) (fun c39 => ?_)
            · skip
              refine x_iload_n (dtk dt_X12_held 75 (127, .iload_n 2, 1) rfl) rfl ?_
              exact r_i (dtk dt_X12_held 76 (128, .ireturn, 1) rfl) rfl (by simp_all <;> omega) (by first | (simp_all <;> omega) | (rw [if_pos c5, if_pos hsp21_0, show v3 = lowN (M 38 o) (dM M o) by omega]; exact crM_congr (fun e h0 h1 => dbl_e h0)))
            · skip
              refine x_iconst (v := 0) ⟨by decide, by decide⟩ (dtk dt_X12_held 26 (42, .iconst 0, 1) rfl) ?_
              refine x_istore (dtk dt_X12_held 27 (43, .istore 4, 2) rfl) (by decide) ?_
              have L45 : ∀ (fu : Nat) (v4 : Int), (0 ≤ v4 ∧ v4 ≤ lowN (M 38 o) (dM M o)) → (lowN (M 38 o) (dM M o) - v4).toNat = fu → MW G mi_X12_held (rmd 4 0 0) (MZ G (PQ (some (0, if isOr M o then (if M 36 0 < 8 ∧ lowN (M 38 o) (dM M o) ≤ 10 then M 36 0 else -1) else -1)) n K (if isOr M o then (if M 36 0 < 8 ∧ lowN (M 38 o) (dM M o) ≤ 10 then crM M 4 (lowN (M 38 o) (dM M o)) (dblF (lowN (M 38 o) (dM M o)) (hdP (M 38 o) (dM M o))) else st2 M 36 12 2) else st2 M 36 12 1)) 0 0) (0, 0) 45 [(0, (1, 36)), (1, (0, o)), (2, (0, M 36 0)), (3, (0, v3)), (4, (0, v4))] [] n K (crM M 4 (lowN (M 38 o) (dM M o)) (dbl (lowN (M 38 o) (dM M o)) (hdP (M 38 o) (dM M o)) (v3) (v4))) := by
                intro fu
                induction fu using Nat.strongRecOn with
                | ind fu ih45 =>
                  intro v4 h3 hk45
                  have hx := hA.crx (k := 4) (q := lowN (M 38 o) (dM M o)) (f := dbl (lowN (M 38 o) (dM M o)) (hdP (M 38 o) (dM M o)) v3 v4) hor hlt hq (fun e h0 h1 => dbl_b hq (by omega) e)
                  refine x_iload (dtk dt_X12_held 28 (45, .iload 4, 2) rfl) rfl ?_
                  refine x_aload_n (dtk dt_X12_held 29 (47, .aload_n 0, 1) rfl) rfl ?_
                  refine fg_X12_13 rfl (dtk dt_X12_held 30 (48, .getfield 13, 3) rfl) (wk_36 hm.1) (wm_36_2 (WF.cr hm.1 _ _ _)) ?_
                  refine x_iload_n (dtk dt_X12_held 31 (51, .iload_n 2, 1) rfl) rfl ?_
                  refine x_iald (dtk dt_X12_held 32 (52, .iaload, 1) rfl) (wk_38 hm.1) ⟨by omega, by omega⟩ ?_
                  rw [crM_38o]
                  refine x_icmp_ge (tgt := 121) (dtk dt_X12_held 33 (53, .if_icmp .ge 68, 3) rfl) (by decide) (fun c53 => ?_) (fun c53 => ?_)
                  · skip
                    refine y_iinc (dtk dt_X12_held 73 (121, .iinc 3 1, 3) rfl) rfl (by decide) ⟨by omega, by omega⟩ ?_
                    refine x_goto (tgt := 27) (dtk dt_X12_held 74 (124, .goto (-97), 3) rfl) (by decide) ?_
                    refine MW.sub [1, 2, 3, 0] rfl ?_
                    refine MW.mem (crM_congr (g := dbl (lowN (M 38 o) (dM M o)) (hdP (M 38 o) (dM M o)) (v3 + 1) 0) (fun e h0 h1 => dbl_n (by omega) h0)) ?_
                    exact ih27 _ (by omega) _ (by omega) rfl
                  · skip
                    have J86_20 : ∀ (j5 : Bool), (j5 = hdP (M 38 o) (dM M o) v3 v4) → MW G mi_X12_held (rmd 4 0 0) (MZ G (PQ (some (0, if isOr M o then (if M 36 0 < 8 ∧ lowN (M 38 o) (dM M o) ≤ 10 then M 36 0 else -1) else -1)) n K (if isOr M o then (if M 36 0 < 8 ∧ lowN (M 38 o) (dM M o) ≤ 10 then crM M 4 (lowN (M 38 o) (dM M o)) (dblF (lowN (M 38 o) (dM M o)) (hdP (M 38 o) (dM M o))) else st2 M 36 12 2) else st2 M 36 12 1)) 0 0) (0, 0) 86 [(0, (1, 36)), (1, (0, o)), (2, (0, M 36 0)), (3, (0, v3)), (4, (0, v4))] [(0, B j5)] n K (crM M 4 (lowN (M 38 o) (dM M o)) (dbl (lowN (M 38 o) (dM M o)) (hdP (M 38 o) (dM M o)) (v3) (v4))) := by
                      intro j5 hJ
                      refine x_istore (dtk dt_X12_held 52 (86, .istore 5, 2) rfl) (by decide) ?_
                      refine x_aload_n (dtk dt_X12_held 53 (88, .aload_n 0, 1) rfl) rfl ?_
                      refine fg_X12_16 rfl (dtk dt_X12_held 54 (89, .getfield 16, 3) rfl) (wk_36 hm.1) (wm_36_3 (WF.cr hm.1 _ _ _)) ?_
                      refine x_bipush (v := 10) ⟨by decide, by decide⟩ (dtk dt_X12_held 55 (92, .bipush 10, 2) rfl) ?_
                      refine x_iload_n (dtk dt_X12_held 56 (94, .iload_n 2, 1) rfl) rfl ?_
                      refine y_imul (dtk dt_X12_held 57 (95, .imul, 1) rfl) ⟨by omega, by omega⟩ ?_
                      refine x_iload (dtk dt_X12_held 58 (96, .iload 4, 2) rfl) rfl ?_
                      refine y_iadd (dtk dt_X12_held 59 (98, .iadd, 1) rfl) ⟨by omega, by omega⟩ ?_
                      refine x_dup2 rfl rfl (dtk dt_X12_held 60 (99, .dup2, 1) rfl) ?_
                      refine x_iald (dtk dt_X12_held 61 (100, .iaload, 1) rfl) (wk_39 hm.1) ⟨by omega, by omega⟩ ?_
                      rw [crM_39o _ _ _ _ (by omega)]
                      refine x_iload (dtk dt_X12_held 62 (101, .iload 5, 2) rfl) rfl ?_
                      refine x_if_eqB (tgt := 112) (dtk dt_X12_held 63 (103, .ifCond .eq 9, 3) rfl) (by decide) (fun c103 => ?_) (fun c103 => ?_)
                      · skip
                        refine x_iconst (v := 0) ⟨by decide, by decide⟩ (dtk dt_X12_held 68 (112, .iconst 0, 1) rfl) ?_
                        refine x_ior (dtk dt_X12_held 69 (113, .ior, 1) rfl) ?_
                        refine x_iast (dtk dt_X12_held 70 (114, .iastore, 1) rfl) (wk_39 hm.1) ⟨by omega, by omega⟩ ?_
                        refine y_iinc (dtk dt_X12_held 71 (115, .iinc 4 1, 3) rfl) rfl (by decide) ⟨by omega, by omega⟩ ?_
                        refine x_goto (tgt := 45) (dtk dt_X12_held 72 (118, .goto (-73), 3) rfl) (by decide) ?_
                        refine MW.sub [2, 3, 4, 5, 0] rfl ?_
                        first | refine MW.mem (crM_dT (P := (hdP (M 38 o) (dM M o))) (by omega) hq.2 (by omega) (hJ.symm.trans c103)) ?_ | refine MW.mem (crM_dF (P := (hdP (M 38 o) (dM M o))) (by omega) hq.2 (by omega) (hJ.symm.trans c103)) ?_
                        exact ih45 _ (by omega) _ (by omega) rfl
                      · skip
                        refine x_iconst (v := 1) ⟨by decide, by decide⟩ (dtk dt_X12_held 64 (106, .iconst 1, 1) rfl) ?_
                        refine x_iload_n (dtk dt_X12_held 65 (107, .iload_n 3, 1) rfl) rfl ?_
                        refine x_ishl (dtk dt_X12_held 66 (108, .ishl, 1) rfl) ?_
                        refine x_goto (tgt := 113) (dtk dt_X12_held 67 (109, .goto 4, 3) rfl) (by decide) ?_
                        refine x_ior (dtk dt_X12_held 69 (113, .ior, 1) rfl) ?_
                        refine x_iast (dtk dt_X12_held 70 (114, .iastore, 1) rfl) (wk_39 hm.1) ⟨by omega, by omega⟩ ?_
                        refine y_iinc (dtk dt_X12_held 71 (115, .iinc 4 1, 3) rfl) rfl (by decide) ⟨by omega, by omega⟩ ?_
                        refine x_goto (tgt := 45) (dtk dt_X12_held 72 (118, .goto (-73), 3) rfl) (by decide) ?_
                        refine MW.sub [2, 3, 4, 5, 0] rfl ?_
                        first | refine MW.mem (crM_dT (P := (hdP (M 38 o) (dM M o))) (by omega) hq.2 (by omega) (hJ.symm.trans c103)) ?_ | refine MW.mem (crM_dF (P := (hdP (M 38 o) (dM M o))) (by omega) hq.2 (by omega) (hJ.symm.trans c103)) ?_
                        exact ih45 _ (by omega) _ (by omega) rfl
                    refine x_iload_n (dtk dt_X12_held 34 (56, .iload_n 3, 1) rfl) rfl ?_
                    refine x_iload (dtk dt_X12_held 35 (57, .iload 4, 2) rfl) rfl ?_
                    refine x_icmp_eq (tgt := 85) (dtk dt_X12_held 36 (59, .if_icmp .eq 26, 3) rfl) (by decide) (fun c59 => ?_) (fun c59 => ?_)
                    · skip
                      refine x_iconst (v := 0) ⟨by decide, by decide⟩ (dtk dt_X12_held 51 (85, .iconst 0, 1) rfl) ?_
                      refine MW.sub [0, 1, 2, 3, 4] rfl ?_
                      exact J86_20 false (by clear ih27 ih45 J86_20; unfold hdP sub; simp_all)
                    · skip
                      refine x_aload_n (dtk dt_X12_held 37 (62, .aload_n 0, 1) rfl) rfl ?_
                      refine x_iload_n (dtk dt_X12_held 38 (63, .iload_n 1, 1) rfl) rfl ?_
                      refine x_iload_n (dtk dt_X12_held 39 (64, .iload_n 3, 1) rfl) rfl ?_
                      refine kc_X12_130 rfl (dtk dt_X12_held 40 (65, .invokevirtual 130, 3) rfl) (c_X12_lowSet (G := G)  hx.1) rfl rfl (wk_36 hm.1) (fitR (by decide) (by decide)) (Nat.le_of_ble_eq_true rfl) (pqK ?_)
                      rw [lowI_congr hz.2 hx.2]
                      refine x_aload_n (dtk dt_X12_held 41 (68, .aload_n 0, 1) rfl) rfl ?_
                      refine x_iload_n (dtk dt_X12_held 42 (69, .iload_n 1, 1) rfl) rfl ?_
                      refine x_iload (dtk dt_X12_held 43 (70, .iload 4, 2) rfl) rfl ?_
                      refine kc_X12_130 rfl (dtk dt_X12_held 44 (72, .invokevirtual 130, 3) rfl) (c_X12_lowSet (G := G)  hx.1) rfl rfl (wk_36 hm.1) (fitR (by decide) (by decide)) (Nat.le_of_ble_eq_true rfl) (pqK ?_)
                      rw [lowI_congr hz.2 hx.2]
                      refine x_iconst (v := -1) ⟨by decide, by decide⟩ (dtk dt_X12_held 45 (75, .iconst (-1), 1) rfl) ?_
                      refine x_ixor (dtk dt_X12_held 46 (76, .ixor, 1) rfl) ?_
                      refine x_iand (dtk dt_X12_held 47 (77, .iand, 1) rfl) ?_
                      refine x_if_ne (tgt := 85) (dtk dt_X12_held 48 (78, .ifCond .ne 7, 3) rfl) (by decide) (fun c78 => ?_) (fun c78 => ?_)
                      · skip
                        refine x_iconst (v := 0) ⟨by decide, by decide⟩ (dtk dt_X12_held 51 (85, .iconst 0, 1) rfl) ?_
                        refine MW.sub [0, 1, 2, 3, 4] rfl ?_
                        exact J86_20 false (by clear ih27 ih45 J86_20; unfold hdP sub; simp_all)
                      · skip
                        refine x_iconst (v := 1) ⟨by decide, by decide⟩ (dtk dt_X12_held 49 (81, .iconst 1, 1) rfl) ?_
                        refine x_goto (tgt := 86) (dtk dt_X12_held 50 (82, .goto 4, 3) rfl) (by decide) ?_
                        refine MW.sub [0, 1, 2, 3, 4] rfl ?_
                        exact J86_20 true (by clear ih27 ih45 J86_20; unfold hdP sub; simp_all)
              refine MW.sub [1, 2, 3, 4, 0] rfl ?_
              exact L45 _ _ (by omega) rfl
      refine MW.sub [2, 3, 1, 0] rfl ?_
      refine MW.mem (crM_congr (g := dbl (lowN (M 38 o) (dM M o)) (hdP (M 38 o) (dM M o)) 0 0) (fun e h0 h1 => dbl_0 _ _ h0)) ?_
      exact L27 _ _ (by omega) rfl
    refine kc_X12_100 rfl (dtk dt_X12_held 13 (21, .invokevirtual 100, 3) rfl) (c_X12_newOrder_no (G := G)  hm (by omega)) rfl rfl (wk_36 hm.1) (fitR (by decide) (by decide)) (Nat.le_of_ble_eq_true rfl) (pqK ?_)
    refine x_istore_n (dtk dt_X12_held 14 (24, .istore_n 2, 1) rfl) (by decide) ?_
    refine x_iconst (v := 0) ⟨by decide, by decide⟩ (dtk dt_X12_held 15 (25, .iconst 0, 1) rfl) ?_
    refine x_istore_n (dtk dt_X12_held 16 (26, .istore_n 3, 1) rfl) (by decide) ?_
    refine x_iload_n (dtk dt_X12_held 17 (27, .iload_n 2, 1) rfl) rfl ?_
    refine x_iconst (v := -1) ⟨by decide, by decide⟩ (dtk dt_X12_held 18 (28, .iconst (-1), 1) rfl) ?_
    refine x_icmp_eq (tgt := 127) (dtk dt_X12_held 19 (29, .if_icmp .eq 98, 3) rfl) (by decide) (fun c29 => ?_) (fun c29 => ?_)
    rotate_left
    · exact absurd (by decide) c29
    refine x_iload_n (dtk dt_X12_held 75 (127, .iload_n 2, 1) rfl) rfl ?_
    exact r_i (dtk dt_X12_held 76 (128, .ireturn, 1) rfl) rfl (by simp_all <;> omega) (by first | (simp_all <;> omega) | (rw [if_pos c5, if_pos hsp21_0, show v3 = lowN (M 38 o) (dM M o) by omega]; exact crM_congr (fun e h0 h1 => dbl_e h0)))
  · skip
    refine x_aload_n (dtk dt_X12_held 4 (8, .aload_n 0, 1) rfl) rfl ?_
    refine x_iconst (v := 1) ⟨by decide, by decide⟩ (dtk dt_X12_held 5 (9, .iconst 1, 1) rfl) ?_
    refine kc_X12_89 rfl (dtk dt_X12_held 6 (10, .invokevirtual 89, 3) rfl) (c_X12_refused (G := G)  hm.1) rfl rfl (wk_36 hm.1) (fitR (by decide) (by decide)) (Nat.le_of_ble_eq_true rfl) (pqK ?_)
    exact r_i (dtk dt_X12_held 7 (13, .ireturn, 1) rfl) rfl (by simp_all <;> omega) (by first | (simp_all <;> omega) | (rw [if_pos c5, if_pos hsp21_0, show v3 = lowN (M 38 o) (dM M o) by omega]; exact crM_congr (fun e h0 h1 => dbl_e h0)))
set_option maxRecDepth 100000 in
set_option maxHeartbeats 4000000 in
theorem c_X12_nth {G : GG} {n : Nat} {K : KK} {M : MM} {s i : Int} (hs : nn s) (hi : 0 ≤ i ∧ i < cnt s) : MC G mi_X12_nth 2 0 0 [(0, s), (0, i)] n K M (PQ (some (0, pk s i)) n K (M)) := by
  refine MC.intro (lc := [(0, (0, s)), (1, (0, i))]) (by decide) rfl (by simp [Nat.ble]) (Nat.le_of_ble_eq_true rfl) rfl (fun hMR => ?_)
  have hk := pki_in hi
  have hcb := cnt_b s
  refine x_iload_n (dtk dt_X12_nth 0 (0, .iload_n 1, 1) rfl) rfl ?_
  refine x_istore_n (dtk dt_X12_nth 1 (1, .istore_n 2, 1) rfl) (by decide) ?_
  refine x_iconst (v := 0) ⟨by decide, by decide⟩ (dtk dt_X12_nth 2 (2, .iconst 0, 1) rfl) ?_
  refine x_istore_n (dtk dt_X12_nth 3 (3, .istore_n 3, 1) rfl) (by decide) ?_
  have L4 : ∀ (fu : Nat) (v2 : Int) (v3 : Int), (0 ≤ v3 ∧ v3 ≤ 10) → (0 ≤ v2 ∧ v2 ≤ 10) → (nth 10 (bt s) v3 v2 = pk s i) → (10 - v3).toNat = fu → MW G mi_X12_nth (rmd 2 0 0) (MZ G (PQ (some (0, pk s i)) n K (M)) 0 0) (0, 0) 4 [(0, (0, s)), (1, (0, i)), (2, (0, v2)), (3, (0, v3))] [] n K (M) := by
    intro fu
    induction fu using Nat.strongRecOn with
    | ind fu ih4 =>
      intro v2 v3 h1 h3 h2 hk4
      have hlt : v3 < 10 := by (by_cases hq : v3 < 10; exact hq; (rw [nth_e (by omega)] at h2; omega))
      refine x_iload_n (dtk dt_X12_nth 4 (4, .iload_n 2, 1) rfl) rfl ?_
      refine x_if_gt (tgt := 16) (dtk dt_X12_nth 5 (5, .ifCond .gt 11, 3) rfl) (by decide) (fun c5 => ?_) (fun c5 => ?_)
      · skip
        refine x_iload_n (dtk dt_X12_nth 10 (16, .iload_n 2, 1) rfl) rfl ?_
        refine x_iload_n (dtk dt_X12_nth 11 (17, .iload_n 0, 1) rfl) rfl ?_
        refine x_iload_n (dtk dt_X12_nth 12 (18, .iload_n 3, 1) rfl) rfl ?_
        refine kc_X12_82 rfl (dtk dt_X12_nth 13 (19, .invokestatic 82, 3) rfl) (c_X12_has (G := G)  hs (by omega)) rfl rfl (fitR (by decide) (by decide)) (Nat.le_of_ble_eq_true rfl) (pqK ?_)
        refine x_if_eqB (tgt := 29) (dtk dt_X12_nth 14 (22, .ifCond .eq 7, 3) rfl) (by decide) (fun c22 => ?_) (fun c22 => ?_)
        · skip
          have cc : bt s v3 = false := c22
          refine x_iconst (v := 0) ⟨by decide, by decide⟩ (dtk dt_X12_nth 17 (29, .iconst 0, 1) rfl) ?_
          refine y_isub (dtk dt_X12_nth 18 (30, .isub, 1) rfl) ⟨by omega, by omega⟩ ?_
          refine x_istore_n (dtk dt_X12_nth 19 (31, .istore_n 2, 1) rfl) (by decide) ?_
          refine y_iinc (dtk dt_X12_nth 20 (32, .iinc 3 1, 3) rfl) rfl (by decide) ⟨by omega, by omega⟩ ?_
          refine x_goto (tgt := 4) (dtk dt_X12_nth 21 (35, .goto (-31), 3) rfl) (by decide) ?_
          refine MW.sub [2, 3, 1, 0] rfl ?_
          exact ih4 _ (by omega) _ _ (by omega) (by omega) (by rw [nth_s (by omega), if_neg (by omega), cc] at h2; first | (rw [if_pos rfl, if_neg (by omega)] at h2; exact h2) | (rw [if_neg (by decide), ] at h2; rw [← h2]; congr 1; omega)) rfl
        · skip
          have cc : bt s v3 = true := c22
          have c0 : 0 < v2 := by first | assumption | (exfalso; rw [c13] at c22; exact absurd c22 (by decide))
          refine x_iconst (v := 1) ⟨by decide, by decide⟩ (dtk dt_X12_nth 15 (25, .iconst 1, 1) rfl) ?_
          refine x_goto (tgt := 30) (dtk dt_X12_nth 16 (26, .goto 4, 3) rfl) (by decide) ?_
          refine y_isub (dtk dt_X12_nth 18 (30, .isub, 1) rfl) ⟨by omega, by omega⟩ ?_
          refine x_istore_n (dtk dt_X12_nth 19 (31, .istore_n 2, 1) rfl) (by decide) ?_
          refine y_iinc (dtk dt_X12_nth 20 (32, .iinc 3 1, 3) rfl) rfl (by decide) ⟨by omega, by omega⟩ ?_
          refine x_goto (tgt := 4) (dtk dt_X12_nth 21 (35, .goto (-31), 3) rfl) (by decide) ?_
          refine MW.sub [2, 3, 1, 0] rfl ?_
          exact ih4 _ (by omega) _ _ (by omega) (by omega) (by rw [nth_s (by omega), if_neg (by omega), cc] at h2; first | (rw [if_pos rfl, if_neg (by omega)] at h2; exact h2) | (rw [if_neg (by decide), ] at h2; rw [← h2]; congr 1; omega)) rfl
      · skip
        refine x_iload_n (dtk dt_X12_nth 6 (8, .iload_n 0, 1) rfl) rfl ?_
        refine x_iload_n (dtk dt_X12_nth 7 (9, .iload_n 3, 1) rfl) rfl ?_
        refine kc_X12_82 rfl (dtk dt_X12_nth 8 (10, .invokestatic 82, 3) rfl) (c_X12_has (G := G)  hs (by omega)) rfl rfl (fitR (by decide) (by decide)) (Nat.le_of_ble_eq_true rfl) (pqK ?_)
        refine x_if_neB (tgt := 38) (dtk dt_X12_nth 9 (13, .ifCond .ne 25, 3) rfl) (by decide) (fun c13 => ?_) (fun c13 => ?_)
        · skip
          refine x_iload_n (dtk dt_X12_nth 22 (38, .iload_n 3, 1) rfl) rfl ?_
          exact r_i (dtk dt_X12_nth 23 (39, .ireturn, 1) rfl) rfl (by rw [nth_s (by omega), if_neg (by omega), c13, if_pos rfl, if_pos (by omega)] at h2; exact h2) rfl
        · skip
          refine x_iload_n (dtk dt_X12_nth 10 (16, .iload_n 2, 1) rfl) rfl ?_
          refine x_iload_n (dtk dt_X12_nth 11 (17, .iload_n 0, 1) rfl) rfl ?_
          refine x_iload_n (dtk dt_X12_nth 12 (18, .iload_n 3, 1) rfl) rfl ?_
          refine kc_X12_82 rfl (dtk dt_X12_nth 13 (19, .invokestatic 82, 3) rfl) (c_X12_has (G := G)  hs (by omega)) rfl rfl (fitR (by decide) (by decide)) (Nat.le_of_ble_eq_true rfl) (pqK ?_)
          refine x_if_eqB (tgt := 29) (dtk dt_X12_nth 14 (22, .ifCond .eq 7, 3) rfl) (by decide) (fun c22 => ?_) (fun c22 => ?_)
          · skip
            have cc : bt s v3 = false := c22
            refine x_iconst (v := 0) ⟨by decide, by decide⟩ (dtk dt_X12_nth 17 (29, .iconst 0, 1) rfl) ?_
            refine y_isub (dtk dt_X12_nth 18 (30, .isub, 1) rfl) ⟨by omega, by omega⟩ ?_
            refine x_istore_n (dtk dt_X12_nth 19 (31, .istore_n 2, 1) rfl) (by decide) ?_
            refine y_iinc (dtk dt_X12_nth 20 (32, .iinc 3 1, 3) rfl) rfl (by decide) ⟨by omega, by omega⟩ ?_
            refine x_goto (tgt := 4) (dtk dt_X12_nth 21 (35, .goto (-31), 3) rfl) (by decide) ?_
            refine MW.sub [2, 3, 1, 0] rfl ?_
            exact ih4 _ (by omega) _ _ (by omega) (by omega) (by rw [nth_s (by omega), if_neg (by omega), cc] at h2; first | (rw [if_pos rfl, if_neg (by omega)] at h2; exact h2) | (rw [if_neg (by decide), ] at h2; rw [← h2]; congr 1; omega)) rfl
          · skip
            have cc : bt s v3 = true := c22
            have c0 : 0 < v2 := by first | assumption | (exfalso; rw [c13] at c22; exact absurd c22 (by decide))
            refine x_iconst (v := 1) ⟨by decide, by decide⟩ (dtk dt_X12_nth 15 (25, .iconst 1, 1) rfl) ?_
            refine x_goto (tgt := 30) (dtk dt_X12_nth 16 (26, .goto 4, 3) rfl) (by decide) ?_
            refine y_isub (dtk dt_X12_nth 18 (30, .isub, 1) rfl) ⟨by omega, by omega⟩ ?_
            refine x_istore_n (dtk dt_X12_nth 19 (31, .istore_n 2, 1) rfl) (by decide) ?_
            refine y_iinc (dtk dt_X12_nth 20 (32, .iinc 3 1, 3) rfl) rfl (by decide) ⟨by omega, by omega⟩ ?_
            refine x_goto (tgt := 4) (dtk dt_X12_nth 21 (35, .goto (-31), 3) rfl) (by decide) ?_
            refine MW.sub [2, 3, 1, 0] rfl ?_
            exact ih4 _ (by omega) _ _ (by omega) (by omega) (by rw [nth_s (by omega), if_neg (by omega), cc] at h2; first | (rw [if_pos rfl, if_neg (by omega)] at h2; exact h2) | (rw [if_neg (by decide), ] at h2; rw [← h2]; congr 1; omega)) rfl
  refine MW.sub [2, 3, 1, 0] rfl ?_
  exact L4 _ _ _ (by omega) (by omega) rfl rfl
set_option maxRecDepth 100000 in
set_option maxHeartbeats 4000000 in
theorem c_X12_part {G : GG} {n : Nat} {K : KK} {M : MM} {o s : Int} (hm : MO K M) : MC G mi_X12_part 3 0 0 [(1, 36), (0, o), (0, s)] n K M (PQ (some (0, if isOr M o && decide (0 ≤ s) && decide (zshr s (M 38 o) = 0) then (if M 36 0 < 8 then M 36 0 else -1) else -1)) n K (if isOr M o && decide (0 ≤ s) && decide (zshr s (M 38 o) = 0) then (if M 36 0 < 8 then crM M 0 (cnt s) (dblF (cnt s) (fun c e => rel (dM M o) (pk s c) (pk s e))) else st2 M 36 12 2) else st2 M 36 12 1)) := by
  refine MC.intro (lc := [(0, (1, 36)), (1, (0, o)), (2, (0, s))]) (by decide) rfl (by simp [Nat.ble]) (Nat.le_of_ble_eq_true rfl) rfl (fun hMR => ?_)
  have h0 := hm.2.1
  refine MW.fact (fun _ hqq _ => ?_)
  have hsR : inR s := hqq (2, 0, s) (by simp)
  refine x_aload_n (dtk dt_X12_part 0 (0, .aload_n 0, 1) rfl) rfl ?_
  refine x_iload_n (dtk dt_X12_part 1 (1, .iload_n 1, 1) rfl) rfl ?_
  refine kc_X12_78 rfl (dtk dt_X12_part 2 (2, .invokevirtual 78, 3) rfl) (c_X12_isOrder (G := G)  hm) rfl rfl (wk_36 hm.1) (fitR (by decide) (by decide)) (Nat.le_of_ble_eq_true rfl) (pqK ?_)
  refine x_if_eqB (tgt := 23) (dtk dt_X12_part 3 (5, .ifCond .eq 18, 3) rfl) (by decide) (fun c5 => ?_) (fun c5 => ?_)
  · skip
    refine x_aload_n (dtk dt_X12_part 13 (23, .aload_n 0, 1) rfl) rfl ?_
    refine x_iconst (v := 1) ⟨by decide, by decide⟩ (dtk dt_X12_part 14 (24, .iconst 1, 1) rfl) ?_
    refine kc_X12_89 rfl (dtk dt_X12_part 15 (25, .invokevirtual 89, 3) rfl) (c_X12_refused (G := G)  hm.1) rfl rfl (wk_36 hm.1) (fitR (by decide) (by decide)) (Nat.le_of_ble_eq_true rfl) (pqK ?_)
    exact r_i (dtk dt_X12_part 16 (28, .ireturn, 1) rfl) rfl (by simp_all <;> omega) (by first | (simp_all <;> omega) | (rw [c5]; simp only [show decide (0 ≤ s) = true from by simp; omega, show decide (zshr s (M 38 o) = 0) = true from by simp [c20], Bool.and_self, if_true]; rw [if_pos hlt, show v4 = cnt s by omega]; exact crM_congr (fun e h0 h1 => dbl_e h0)))
  · skip
    have ho := isOr_of hm c5
    have hA : AT K M o (M 38 o) (dM M o) := ⟨hm, ho, rfl, rfl⟩
    have hz := hA.ok.1
    have hor : o < M 36 0 := by (have := c5; unfold isOr at this; simp at this; omega)
    have hq := cnt_b s
    refine x_iload_n (dtk dt_X12_part 4 (8, .iload_n 2, 1) rfl) rfl ?_
    refine x_if_lt (tgt := 23) (dtk dt_X12_part 5 (9, .ifCond .lt 14, 3) rfl) (by decide) (fun c9 => ?_) (fun c9 => ?_)
    · skip
      refine x_aload_n (dtk dt_X12_part 13 (23, .aload_n 0, 1) rfl) rfl ?_
      refine x_iconst (v := 1) ⟨by decide, by decide⟩ (dtk dt_X12_part 14 (24, .iconst 1, 1) rfl) ?_
      refine kc_X12_89 rfl (dtk dt_X12_part 15 (25, .invokevirtual 89, 3) rfl) (c_X12_refused (G := G)  hm.1) rfl rfl (wk_36 hm.1) (fitR (by decide) (by decide)) (Nat.le_of_ble_eq_true rfl) (pqK ?_)
      exact r_i (dtk dt_X12_part 16 (28, .ireturn, 1) rfl) rfl (by simp_all <;> omega) (by first | (simp_all <;> omega) | (rw [c5]; simp only [show decide (0 ≤ s) = true from by simp; omega, show decide (zshr s (M 38 o) = 0) = true from by simp [c20], Bool.and_self, if_true]; rw [if_pos hlt, show v4 = cnt s by omega]; exact crM_congr (fun e h0 h1 => dbl_e h0)))
    · skip
      refine x_iload_n (dtk dt_X12_part 6 (12, .iload_n 2, 1) rfl) rfl ?_
      refine x_aload_n (dtk dt_X12_part 7 (13, .aload_n 0, 1) rfl) rfl ?_
      refine fg_X12_13 rfl (dtk dt_X12_part 8 (14, .getfield 13, 3) rfl) (wk_36 hm.1) (wm_36_2 hm.1) ?_
      refine x_iload_n (dtk dt_X12_part 9 (17, .iload_n 1, 1) rfl) rfl ?_
      refine x_iald (dtk dt_X12_part 10 (18, .iaload, 1) rfl) (wk_38 hm.1) ⟨by omega, by omega⟩ ?_
      refine x_ishr (dtk dt_X12_part 11 (19, .ishr, 1) rfl) ?_
      refine x_if_eq (tgt := 29) (dtk dt_X12_part 12 (20, .ifCond .eq 9, 3) rfl) (by decide) (fun c20 => ?_) (fun c20 => ?_)
      · skip
        have hsn : nn s := ⟨by omega, (hsR).2⟩
        refine x_aload_n (dtk dt_X12_part 17 (29, .aload_n 0, 1) rfl) rfl ?_
        refine x_iconst (v := 0) ⟨by decide, by decide⟩ (dtk dt_X12_part 18 (30, .iconst 0, 1) rfl) ?_
        refine x_iload_n (dtk dt_X12_part 19 (31, .iload_n 2, 1) rfl) rfl ?_
        refine kc_X12_133 rfl (dtk dt_X12_part 20 (32, .invokestatic 133, 3) rfl) (c_X12_bits (G := G)  hsn) rfl rfl (fitR (by decide) (by decide)) (Nat.le_of_ble_eq_true rfl) (pqK ?_)
        change MW G _ _ _ _ _ _ ((0, cnt s) :: _) _ _ _
        by_cases hsp35_0 : M 36 0 < 8
        · skip
          have hlt : M 36 0 < 8 := hsp35_0
          refine kc_X12_100 rfl (dtk dt_X12_part 21 (35, .invokevirtual 100, 3) rfl) (c_X12_newOrder (G := G)  hm (by omega) (by omega)) rfl rfl (wk_36 hm.1) (fitR (by decide) (by decide)) (Nat.le_of_ble_eq_true rfl) (pqK ?_)
          refine x_istore_n (dtk dt_X12_part 22 (38, .istore_n 3, 1) rfl) (by decide) ?_
          refine x_iconst (v := 0) ⟨by decide, by decide⟩ (dtk dt_X12_part 23 (39, .iconst 0, 1) rfl) ?_
          refine x_istore (dtk dt_X12_part 24 (40, .istore 4, 2) rfl) (by decide) ?_
          have L42 : ∀ (fu : Nat) (v4 : Int), (0 ≤ v4 ∧ v4 ≤ cnt s) → (cnt s - v4).toNat = fu → MW G mi_X12_part (rmd 3 0 0) (MZ G (PQ (some (0, if isOr M o && decide (0 ≤ s) && decide (zshr s (M 38 o) = 0) then (if M 36 0 < 8 then M 36 0 else -1) else -1)) n K (if isOr M o && decide (0 ≤ s) && decide (zshr s (M 38 o) = 0) then (if M 36 0 < 8 then crM M 0 (cnt s) (dblF (cnt s) (fun c e => rel (dM M o) (pk s c) (pk s e))) else st2 M 36 12 2) else st2 M 36 12 1)) 0 0) (0, 0) 42 [(0, (1, 36)), (1, (0, o)), (2, (0, s)), (3, (0, M 36 0)), (4, (0, v4))] [] n K (crM M 0 (cnt s) (dbl (cnt s) (fun c e => rel (dM M o) (pk s c) (pk s e)) (v4) (0))) := by
            intro fu
            induction fu using Nat.strongRecOn with
            | ind fu ih42 =>
              intro v4 h1 hk42
              refine x_iload_n (dtk dt_X12_part 25 (42, .iload_n 3, 1) rfl) rfl ?_
              refine x_iconst (v := -1) ⟨by decide, by decide⟩ (dtk dt_X12_part 26 (43, .iconst (-1), 1) rfl) ?_
              refine x_icmp_eq (tgt := 127) (dtk dt_X12_part 27 (44, .if_icmp .eq 83, 3) rfl) (by decide) (fun c44 => ?_) (fun c44 => ?_)
              · skip
                exact absurd c44 (by omega)
              · skip
                refine x_iload (dtk dt_X12_part 28 (47, .iload 4, 2) rfl) rfl ?_
                refine x_aload_n (dtk dt_X12_part 29 (49, .aload_n 0, 1) rfl) rfl ?_
                refine fg_X12_13 rfl (dtk dt_X12_part 30 (50, .getfield 13, 3) rfl) (wk_36 hm.1) (wm_36_2 (WF.cr hm.1 _ _ _)) ?_
                refine x_iload_n (dtk dt_X12_part 31 (53, .iload_n 3, 1) rfl) rfl ?_
                refine x_iald (dtk dt_X12_part 32 (54, .iaload, 1) rfl) (wk_38 hm.1) ⟨by omega, by omega⟩ ?_
                rw [crM_38o]
                refine x_icmp_ge (tgt := 127) (dtk dt_X12_part 33 (55, .if_icmp .ge 72, 3) rfl) (by decide) (fun c55 => ?_) (fun c55 => ?_)
                · skip
                  refine x_iload_n (dtk dt_X12_part 72 (127, .iload_n 3, 1) rfl) rfl ?_
                  exact r_i (dtk dt_X12_part 73 (128, .ireturn, 1) rfl) rfl (by simp_all <;> omega) (by first | (simp_all <;> omega) | (rw [c5]; simp only [show decide (0 ≤ s) = true from by simp; omega, show decide (zshr s (M 38 o) = 0) = true from by simp [c20], Bool.and_self, if_true]; rw [if_pos hlt, show v4 = cnt s by omega]; exact crM_congr (fun e h0 h1 => dbl_e h0)))
                · skip
                  refine x_iconst (v := 0) ⟨by decide, by decide⟩ (dtk dt_X12_part 34 (58, .iconst 0, 1) rfl) ?_
                  refine x_istore (dtk dt_X12_part 35 (59, .istore 5, 2) rfl) (by decide) ?_
                  have L61 : ∀ (fu : Nat) (v5 : Int), (0 ≤ v5 ∧ v5 ≤ cnt s) → (cnt s - v5).toNat = fu → MW G mi_X12_part (rmd 3 0 0) (MZ G (PQ (some (0, if isOr M o && decide (0 ≤ s) && decide (zshr s (M 38 o) = 0) then (if M 36 0 < 8 then M 36 0 else -1) else -1)) n K (if isOr M o && decide (0 ≤ s) && decide (zshr s (M 38 o) = 0) then (if M 36 0 < 8 then crM M 0 (cnt s) (dblF (cnt s) (fun c e => rel (dM M o) (pk s c) (pk s e))) else st2 M 36 12 2) else st2 M 36 12 1)) 0 0) (0, 0) 61 [(0, (1, 36)), (1, (0, o)), (2, (0, s)), (3, (0, M 36 0)), (4, (0, v4)), (5, (0, v5))] [] n K (crM M 0 (cnt s) (dbl (cnt s) (fun c e => rel (dM M o) (pk s c) (pk s e)) (v4) (v5))) := by
                    intro fu
                    induction fu using Nat.strongRecOn with
                    | ind fu ih61 =>
                      intro v5 h3 hk61
                      have hx := hA.crx (k := 0) (q := cnt s) (f := dbl (cnt s) (fun c e => rel (dM M o) (pk s c) (pk s e)) v4 v5) hor hlt hq (fun e h0 h1 => dbl_b hq (by omega) e)
                      refine x_iload (dtk dt_X12_part 36 (61, .iload 5, 2) rfl) rfl ?_
                      refine x_aload_n (dtk dt_X12_part 37 (63, .aload_n 0, 1) rfl) rfl ?_
                      refine fg_X12_13 rfl (dtk dt_X12_part 38 (64, .getfield 13, 3) rfl) (wk_36 hm.1) (wm_36_2 (WF.cr hm.1 _ _ _)) ?_
                      refine x_iload_n (dtk dt_X12_part 39 (67, .iload_n 3, 1) rfl) rfl ?_
                      refine x_iald (dtk dt_X12_part 40 (68, .iaload, 1) rfl) (wk_38 hm.1) ⟨by omega, by omega⟩ ?_
                      rw [crM_38o]
                      refine x_icmp_ge (tgt := 121) (dtk dt_X12_part 41 (69, .if_icmp .ge 52, 3) rfl) (by decide) (fun c69 => ?_) (fun c69 => ?_)
                      · skip
                        refine y_iinc (dtk dt_X12_part 70 (121, .iinc 4 1, 3) rfl) rfl (by decide) ⟨by omega, by omega⟩ ?_
                        refine x_goto (tgt := 42) (dtk dt_X12_part 71 (124, .goto (-82), 3) rfl) (by decide) ?_
                        refine MW.sub [1, 2, 3, 4, 0] rfl ?_
                        refine MW.mem (crM_congr (g := dbl (cnt s) (fun c e => rel (dM M o) (pk s c) (pk s e)) (v4 + 1) 0) (fun e h0 h1 => dbl_n (by omega) h0)) ?_
                        exact ih42 _ (by omega) _ (by omega) rfl
                      · skip
                        refine x_aload_n (dtk dt_X12_part 42 (72, .aload_n 0, 1) rfl) rfl ?_
                        refine fg_X12_16 rfl (dtk dt_X12_part 43 (73, .getfield 16, 3) rfl) (wk_36 hm.1) (wm_36_3 (WF.cr hm.1 _ _ _)) ?_
                        refine x_bipush (v := 10) ⟨by decide, by decide⟩ (dtk dt_X12_part 44 (76, .bipush 10, 2) rfl) ?_
                        refine x_iload_n (dtk dt_X12_part 45 (78, .iload_n 3, 1) rfl) rfl ?_
                        refine y_imul (dtk dt_X12_part 46 (79, .imul, 1) rfl) ⟨by omega, by omega⟩ ?_
                        refine x_iload (dtk dt_X12_part 47 (80, .iload 5, 2) rfl) rfl ?_
                        refine y_iadd (dtk dt_X12_part 48 (82, .iadd, 1) rfl) ⟨by omega, by omega⟩ ?_
                        refine x_dup2 rfl rfl (dtk dt_X12_part 49 (83, .dup2, 1) rfl) ?_
                        refine x_iald (dtk dt_X12_part 50 (84, .iaload, 1) rfl) (wk_39 hm.1) ⟨by omega, by omega⟩ ?_
                        rw [crM_39o _ _ _ _ (by omega)]
                        refine x_aload_n (dtk dt_X12_part 51 (85, .aload_n 0, 1) rfl) rfl ?_
                        refine x_iload_n (dtk dt_X12_part 52 (86, .iload_n 1, 1) rfl) rfl ?_
                        refine x_iload_n (dtk dt_X12_part 53 (87, .iload_n 2, 1) rfl) rfl ?_
                        refine x_iload (dtk dt_X12_part 54 (88, .iload 4, 2) rfl) rfl ?_
                        refine kc_X12_136 rfl (dtk dt_X12_part 55 (90, .invokestatic 136, 3) rfl) (c_X12_nth (G := G)  hsn (by omega)) rfl rfl (fitR (by decide) (by decide)) (Nat.le_of_ble_eq_true rfl) (pqK ?_)
                        have hk4 := pki_in (s := s) (i := v4) (by omega)
                        refine x_iload_n (dtk dt_X12_part 56 (93, .iload_n 2, 1) rfl) rfl ?_
                        refine x_iload (dtk dt_X12_part 57 (94, .iload 5, 2) rfl) rfl ?_
                        refine kc_X12_136 rfl (dtk dt_X12_part 58 (96, .invokestatic 136, 3) rfl) (c_X12_nth (G := G)  hsn (by omega)) rfl rfl (fitR (by decide) (by decide)) (Nat.le_of_ble_eq_true rfl) (pqK ?_)
                        have hk5 := pki_in (s := s) (i := v5) (by omega)
                        refine kc_X12_86 rfl (dtk dt_X12_part 59 (99, .invokevirtual 86, 3) rfl) (c_X12_isBelow (G := G)  hx.1 (by omega) (by omega)) rfl rfl (wk_36 hm.1) (fitR (by decide) (by decide)) (Nat.le_of_ble_eq_true rfl) (pqK ?_)
                        rw [rel_eq hx.2 (by omega)]
                        refine x_if_eqB (tgt := 112) (dtk dt_X12_part 60 (102, .ifCond .eq 10, 3) rfl) (by decide) (fun c102 => ?_) (fun c102 => ?_)
                        · skip
                          refine x_iconst (v := 0) ⟨by decide, by decide⟩ (dtk dt_X12_part 65 (112, .iconst 0, 1) rfl) ?_
                          refine x_ior (dtk dt_X12_part 66 (113, .ior, 1) rfl) ?_
                          refine x_iast (dtk dt_X12_part 67 (114, .iastore, 1) rfl) (wk_39 hm.1) ⟨by omega, by omega⟩ ?_
                          refine y_iinc (dtk dt_X12_part 68 (115, .iinc 5 1, 3) rfl) rfl (by decide) ⟨by omega, by omega⟩ ?_
                          refine x_goto (tgt := 61) (dtk dt_X12_part 69 (118, .goto (-57), 3) rfl) (by decide) ?_
                          refine MW.sub [1, 2, 3, 4, 5, 0] rfl ?_
                          first | refine MW.mem (crM_dT (P := (fun c e => rel (dM M o) (pk s c) (pk s e))) (by omega) hq.2 (by omega) c102) ?_ | refine MW.mem (crM_dF (P := (fun c e => rel (dM M o) (pk s c) (pk s e))) (by omega) hq.2 (by omega) c102) ?_
                          exact ih61 _ (by omega) _ (by omega) rfl
                        · skip
                          refine x_iconst (v := 1) ⟨by decide, by decide⟩ (dtk dt_X12_part 61 (105, .iconst 1, 1) rfl) ?_
                          refine x_iload (dtk dt_X12_part 62 (106, .iload 4, 2) rfl) rfl ?_
                          refine x_ishl (dtk dt_X12_part 63 (108, .ishl, 1) rfl) ?_
                          refine x_goto (tgt := 113) (dtk dt_X12_part 64 (109, .goto 4, 3) rfl) (by decide) ?_
                          refine x_ior (dtk dt_X12_part 66 (113, .ior, 1) rfl) ?_
                          refine x_iast (dtk dt_X12_part 67 (114, .iastore, 1) rfl) (wk_39 hm.1) ⟨by omega, by omega⟩ ?_
                          refine y_iinc (dtk dt_X12_part 68 (115, .iinc 5 1, 3) rfl) rfl (by decide) ⟨by omega, by omega⟩ ?_
                          refine x_goto (tgt := 61) (dtk dt_X12_part 69 (118, .goto (-57), 3) rfl) (by decide) ?_
                          refine MW.sub [1, 2, 3, 4, 5, 0] rfl ?_
                          first | refine MW.mem (crM_dT (P := (fun c e => rel (dM M o) (pk s c) (pk s e))) (by omega) hq.2 (by omega) c102) ?_ | refine MW.mem (crM_dF (P := (fun c e => rel (dM M o) (pk s c) (pk s e))) (by omega) hq.2 (by omega) c102) ?_
                          exact ih61 _ (by omega) _ (by omega) rfl
                  refine MW.sub [1, 2, 3, 4, 5, 0] rfl ?_
                  exact L61 _ _ (by omega) rfl
          refine MW.sub [2, 3, 4, 1, 0] rfl ?_
          refine MW.mem (crM_congr (g := dbl (cnt s) (fun c e => rel (dM M o) (pk s c) (pk s e)) 0 0) (fun e h0 h1 => dbl_0 _ _ h0)) ?_
          exact L42 _ _ (by omega) rfl
        refine kc_X12_100 rfl (dtk dt_X12_part 21 (35, .invokevirtual 100, 3) rfl) (c_X12_newOrder_no (G := G)  hm (by omega)) rfl rfl (wk_36 hm.1) (fitR (by decide) (by decide)) (Nat.le_of_ble_eq_true rfl) (pqK ?_)
        refine x_istore_n (dtk dt_X12_part 22 (38, .istore_n 3, 1) rfl) (by decide) ?_
        refine x_iconst (v := 0) ⟨by decide, by decide⟩ (dtk dt_X12_part 23 (39, .iconst 0, 1) rfl) ?_
        refine x_istore (dtk dt_X12_part 24 (40, .istore 4, 2) rfl) (by decide) ?_
        refine x_iload_n (dtk dt_X12_part 25 (42, .iload_n 3, 1) rfl) rfl ?_
        refine x_iconst (v := -1) ⟨by decide, by decide⟩ (dtk dt_X12_part 26 (43, .iconst (-1), 1) rfl) ?_
        refine x_icmp_eq (tgt := 127) (dtk dt_X12_part 27 (44, .if_icmp .eq 83, 3) rfl) (by decide) (fun c44 => ?_) (fun c44 => ?_)
        rotate_left
        · exact absurd (by decide) c44
        refine x_iload_n (dtk dt_X12_part 72 (127, .iload_n 3, 1) rfl) rfl ?_
        exact r_i (dtk dt_X12_part 73 (128, .ireturn, 1) rfl) rfl (by simp_all <;> omega) (by first | (simp_all <;> omega) | (rw [c5]; simp only [show decide (0 ≤ s) = true from by simp; omega, show decide (zshr s (M 38 o) = 0) = true from by simp [c20], Bool.and_self, if_true]; rw [if_pos hlt, show v4 = cnt s by omega]; exact crM_congr (fun e h0 h1 => dbl_e h0)))
      · skip
        refine x_aload_n (dtk dt_X12_part 13 (23, .aload_n 0, 1) rfl) rfl ?_
        refine x_iconst (v := 1) ⟨by decide, by decide⟩ (dtk dt_X12_part 14 (24, .iconst 1, 1) rfl) ?_
        refine kc_X12_89 rfl (dtk dt_X12_part 15 (25, .invokevirtual 89, 3) rfl) (c_X12_refused (G := G)  hm.1) rfl rfl (wk_36 hm.1) (fitR (by decide) (by decide)) (Nat.le_of_ble_eq_true rfl) (pqK ?_)
        exact r_i (dtk dt_X12_part 16 (28, .ireturn, 1) rfl) rfl (by simp_all <;> omega) (by first | (simp_all <;> omega) | (rw [c5]; simp only [show decide (0 ≤ s) = true from by simp; omega, show decide (zshr s (M 38 o) = 0) = true from by simp [c20], Bool.and_self, if_true]; rw [if_pos hlt, show v4 = cnt s by omega]; exact crM_congr (fun e h0 h1 => dbl_e h0)))
set_option maxRecDepth 100000 in
set_option maxHeartbeats 4000000 in
theorem c_X12_drop {G : GG} {n : Nat} {K : KK} {M : MM}  (hm : MO K M) : MC G mi_X12_drop 2 0 0 [(1, 36)] n K M (PQ (some (0, if M 36 0 = 0 then -1 else M 36 0 - 1)) n K (if M 36 0 = 0 then st2 M 36 12 3 else st2 (st2 (st2 (st2 (st2 M 36 0 (M 36 0 - 1)) 36 7 0) 36 5 (if M 36 4 = M 36 0 - 1 then 0 else M 36 5)) 36 21 0) 36 12 0)) := by
  refine MC.intro (lc := [(0, (1, 36))]) (by decide) rfl (by simp [Nat.ble]) (Nat.le_of_ble_eq_true rfl) rfl (fun hMR => ?_)
  have h0 := hm.2.1
  refine x_aload_n (dtk dt_X12_drop 0 (0, .aload_n 0, 1) rfl) rfl ?_
  refine fg_X12_71 rfl (dtk dt_X12_drop 1 (1, .getfield 71, 3) rfl) (wk_36 hm.1) rfl ?_
  refine x_if_ne (tgt := 13) (dtk dt_X12_drop 2 (4, .ifCond .ne 9, 3) rfl) (by decide) (fun c4 => ?_) (fun c4 => ?_)
  · skip
    refine x_aload_n (dtk dt_X12_drop 7 (13, .aload_n 0, 1) rfl) rfl ?_
    refine x_dup rfl (dtk dt_X12_drop 8 (14, .dup, 1) rfl) ?_
    refine fg_X12_71 rfl (dtk dt_X12_drop 9 (15, .getfield 71, 3) rfl) (wk_36 hm.1) rfl ?_
    refine x_iconst (v := 1) ⟨by decide, by decide⟩ (dtk dt_X12_drop 10 (18, .iconst 1, 1) rfl) ?_
    refine y_isub (dtk dt_X12_drop 11 (19, .isub, 1) rfl) ⟨by omega, by omega⟩ ?_
    refine fp_X12_71 rfl (dtk dt_X12_drop 12 (20, .putfield 71, 3) rfl) (wk_36 hm.1) ?_
    refine x_aload_n (dtk dt_X12_drop 13 (23, .aload_n 0, 1) rfl) rfl ?_
    refine x_iconst (v := 0) ⟨by decide, by decide⟩ (dtk dt_X12_drop 14 (24, .iconst 0, 1) rfl) ?_
    refine fp_X12_107 rfl (dtk dt_X12_drop 15 (25, .putfield 107, 3) rfl) (wk_36 hm.1) ?_
    refine x_aload_n (dtk dt_X12_drop 16 (28, .aload_n 0, 1) rfl) rfl ?_
    refine x_aload_n (dtk dt_X12_drop 17 (29, .aload_n 0, 1) rfl) rfl ?_
    refine fg_X12_19 rfl (dtk dt_X12_drop 18 (30, .getfield 19, 3) rfl) (wk_36 hm.1) (v := M 36 4) (by simp [st2]) ?_
    refine x_aload_n (dtk dt_X12_drop 19 (33, .aload_n 0, 1) rfl) rfl ?_
    refine fg_X12_71 rfl (dtk dt_X12_drop 20 (34, .getfield 71, 3) rfl) (wk_36 hm.1) (v := M 36 0 - 1) (by simp [st2]) ?_
    refine x_icmp_ne (tgt := 44) (dtk dt_X12_drop 21 (37, .if_icmp .ne 7, 3) rfl) (by decide) (fun c37 => ?_) (fun c37 => ?_)
    · skip
      refine x_aload_n (dtk dt_X12_drop 24 (44, .aload_n 0, 1) rfl) rfl ?_
      refine fg_X12_139 rfl (dtk dt_X12_drop 25 (45, .getfield 139, 3) rfl) (wk_36 hm.1) (v := M 36 5) (by simp [st2]) ?_
      refine fp_X12_139 rfl (dtk dt_X12_drop 26 (48, .putfield 139, 3) rfl) (wk_36 hm.1) ?_
      refine x_aload_n (dtk dt_X12_drop 27 (51, .aload_n 0, 1) rfl) rfl ?_
      refine x_iconst (v := 0) ⟨by decide, by decide⟩ (dtk dt_X12_drop 28 (52, .iconst 0, 1) rfl) ?_
      refine fp_X12_93 rfl (dtk dt_X12_drop 29 (53, .putfield 93, 3) rfl) (wk_36 hm.1) (Or.inl rfl) ?_
      refine x_aload_n (dtk dt_X12_drop 30 (56, .aload_n 0, 1) rfl) rfl ?_
      refine x_aload_n (dtk dt_X12_drop 31 (57, .aload_n 0, 1) rfl) rfl ?_
      refine fg_X12_71 rfl (dtk dt_X12_drop 32 (58, .getfield 71, 3) rfl) (wk_36 hm.1) (v := M 36 0 - 1) (by simp [st2]) ?_
      refine kc_X12_97 rfl (dtk dt_X12_drop 33 (61, .invokevirtual 97, 3) rfl) (c_X12_done (G := G)  (WF.fld 36 21 rfl (WF.fld 36 5 rfl (WF.fld 36 7 rfl (WF.fld 36 0 rfl hm.1))))) rfl rfl (wk_36 hm.1) (fitR (by decide) (by decide)) (Nat.le_of_ble_eq_true rfl) (pqK ?_)
      exact r_i (dtk dt_X12_drop 34 (64, .ireturn, 1) rfl) rfl (by first | (rw [if_pos (by omega)]; done) | (rw [if_neg (by omega)]; done)) (by first | (rw [if_pos (by omega)]; done) | (rw [if_neg (show ¬ M 36 0 = 0 from by omega)]; first | rw [if_pos (by omega)] | rw [if_neg (by omega)]))
    · skip
      refine x_iconst (v := 0) ⟨by decide, by decide⟩ (dtk dt_X12_drop 22 (40, .iconst 0, 1) rfl) ?_
      refine x_goto (tgt := 48) (dtk dt_X12_drop 23 (41, .goto 7, 3) rfl) (by decide) ?_
      refine fp_X12_139 rfl (dtk dt_X12_drop 26 (48, .putfield 139, 3) rfl) (wk_36 hm.1) ?_
      refine x_aload_n (dtk dt_X12_drop 27 (51, .aload_n 0, 1) rfl) rfl ?_
      refine x_iconst (v := 0) ⟨by decide, by decide⟩ (dtk dt_X12_drop 28 (52, .iconst 0, 1) rfl) ?_
      refine fp_X12_93 rfl (dtk dt_X12_drop 29 (53, .putfield 93, 3) rfl) (wk_36 hm.1) (Or.inl rfl) ?_
      refine x_aload_n (dtk dt_X12_drop 30 (56, .aload_n 0, 1) rfl) rfl ?_
      refine x_aload_n (dtk dt_X12_drop 31 (57, .aload_n 0, 1) rfl) rfl ?_
      refine fg_X12_71 rfl (dtk dt_X12_drop 32 (58, .getfield 71, 3) rfl) (wk_36 hm.1) (v := M 36 0 - 1) (by simp [st2]) ?_
      refine kc_X12_97 rfl (dtk dt_X12_drop 33 (61, .invokevirtual 97, 3) rfl) (c_X12_done (G := G)  (WF.fld 36 21 rfl (WF.fld 36 5 rfl (WF.fld 36 7 rfl (WF.fld 36 0 rfl hm.1))))) rfl rfl (wk_36 hm.1) (fitR (by decide) (by decide)) (Nat.le_of_ble_eq_true rfl) (pqK ?_)
      exact r_i (dtk dt_X12_drop 34 (64, .ireturn, 1) rfl) rfl (by first | (rw [if_pos (by omega)]; done) | (rw [if_neg (by omega)]; done)) (by first | (rw [if_pos (by omega)]; done) | (rw [if_neg (show ¬ M 36 0 = 0 from by omega)]; first | rw [if_pos (by omega)] | rw [if_neg (by omega)]))
  · skip
    refine x_aload_n (dtk dt_X12_drop 3 (7, .aload_n 0, 1) rfl) rfl ?_
    refine x_iconst (v := 3) ⟨by decide, by decide⟩ (dtk dt_X12_drop 4 (8, .iconst 3, 1) rfl) ?_
    refine kc_X12_89 rfl (dtk dt_X12_drop 5 (9, .invokevirtual 89, 3) rfl) (c_X12_refused (G := G)  hm.1) rfl rfl (wk_36 hm.1) (fitR (by decide) (by decide)) (Nat.le_of_ble_eq_true rfl) (pqK ?_)
    exact r_i (dtk dt_X12_drop 6 (12, .ireturn, 1) rfl) rfl (by first | (rw [if_pos (by omega)]; done) | (rw [if_neg (by omega)]; done)) (by first | (rw [if_pos (by omega)]; done) | (rw [if_neg (show ¬ M 36 0 = 0 from by omega)]; first | rw [if_pos (by omega)] | rw [if_neg (by omega)]))
