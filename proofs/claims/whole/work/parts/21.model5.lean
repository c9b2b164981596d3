/-! ===== the model: orders of orders ===== -/
set_option maxRecDepth 100000 in
set_option maxHeartbeats 4000000 in
theorem c_X12_dual {G : GG} {n : Nat} {K : KK} {M : MM} {o : Int} (hm : MO K M) : MC G mi_X12_dual 3 0 0 [(1, 36), (0, o)] n K M (PQ (some (0, if isOr M o then (if M 36 0 < 8 then M 36 0 else -1) else -1)) n K (if isOr M o then (if M 36 0 < 8 then crM M 0 (M 38 o) (dblF (M 38 o) (fun c e => rel (dM M o) e c)) else st2 M 36 12 2) else st2 M 36 12 1)) := by
  refine MC.intro (lc := [(0, (1, 36)), (1, (0, o))]) (by decide) rfl (by simp [Nat.ble]) (Nat.le_of_ble_eq_true rfl) rfl (fun hMR => ?_)
  have h0 := hm.2.1
  refine x_aload_n (dtk dt_X12_dual 0 (0, .aload_n 0, 1) rfl) rfl ?_
  refine x_iload_n (dtk dt_X12_dual 1 (1, .iload_n 1, 1) rfl) rfl ?_
  refine kc_X12_78 rfl (dtk dt_X12_dual 2 (2, .invokevirtual 78, 3) rfl) (c_X12_isOrder (G := G)  hm) rfl rfl (wk_36 hm.1) (fitR (by decide) (by decide)) (Nat.le_of_ble_eq_true rfl) (pqK ?_)
  refine x_if_neB (tgt := 14) (dtk dt_X12_dual 3 (5, .ifCond .ne 9, 3) rfl) (by decide) (fun c5 => ?_) (fun c5 => ?_)
  · skip
    have ho := isOr_of hm c5
    have hA : AT K M o (M 38 o) (dM M o) := ⟨hm, ho, rfl, rfl⟩
    have hq := hA.ok.1
    have hor : o < M 36 0 := by (have := c5; unfold isOr at this; simp at this; omega)
    refine x_aload_n (dtk dt_X12_dual 8 (14, .aload_n 0, 1) rfl) rfl ?_
    refine x_iconst (v := 0) ⟨by decide, by decide⟩ (dtk dt_X12_dual 9 (15, .iconst 0, 1) rfl) ?_
    refine x_aload_n (dtk dt_X12_dual 10 (16, .aload_n 0, 1) rfl) rfl ?_
    refine fg_X12_13 rfl (dtk dt_X12_dual 11 (17, .getfield 13, 3) rfl) (wk_36 hm.1) (wm_36_2 hm.1) ?_
    refine x_iload_n (dtk dt_X12_dual 12 (20, .iload_n 1, 1) rfl) rfl ?_
    refine x_iald (dtk dt_X12_dual 13 (21, .iaload, 1) rfl) (wk_38 hm.1) ⟨by omega, by omega⟩ ?_
    by_cases hsp22_0 : M 36 0 < 8
    · skip
      have hlt : M 36 0 < 8 := hsp22_0
      refine kc_X12_100 rfl (dtk dt_X12_dual 14 (22, .invokevirtual 100, 3) rfl) (c_X12_newOrder (G := G)  hm (by omega) (by omega)) rfl rfl (wk_36 hm.1) (fitR (by decide) (by decide)) (Nat.le_of_ble_eq_true rfl) (pqK ?_)
      refine x_istore_n (dtk dt_X12_dual 15 (25, .istore_n 2, 1) rfl) (by decide) ?_
      refine x_iconst (v := 0) ⟨by decide, by decide⟩ (dtk dt_X12_dual 16 (26, .iconst 0, 1) rfl) ?_
      refine x_istore_n (dtk dt_X12_dual 17 (27, .istore_n 3, 1) rfl) (by decide) ?_
      have L28 : ∀ (fu : Nat) (v3 : Int), (0 ≤ v3 ∧ v3 ≤ M 38 o) → (M 38 o - v3).toNat = fu → MW G mi_X12_dual (rmd 3 0 0) (MZ G (PQ (some (0, if isOr M o then (if M 36 0 < 8 then M 36 0 else -1) else -1)) n K (if isOr M o then (if M 36 0 < 8 then crM M 0 (M 38 o) (dblF (M 38 o) (fun c e => rel (dM M o) e c)) else st2 M 36 12 2) else st2 M 36 12 1)) 0 0) (0, 0) 28 [(0, (1, 36)), (1, (0, o)), (2, (0, M 36 0)), (3, (0, v3))] [] n K (crM M 0 (M 38 o) (dbl (M 38 o) (fun c e => rel (dM M o) e c) (v3) (0))) := by
        intro fu
        induction fu using Nat.strongRecOn with
        | ind fu ih28 =>
          intro v3 h1 hk28
          refine x_iload_n (dtk dt_X12_dual 18 (28, .iload_n 2, 1) rfl) rfl ?_
          refine x_iconst (v := -1) ⟨by decide, by decide⟩ (dtk dt_X12_dual 19 (29, .iconst (-1), 1) rfl) ?_
          refine x_icmp_eq (tgt := 102) (dtk dt_X12_dual 20 (30, .if_icmp .eq 72, 3) rfl) (by decide) (fun c30 => ?_) (fun c30 => ?_)
          · skip
            exact absurd c30 (by omega)
          · skip
            refine x_iload_n (dtk dt_X12_dual 21 (33, .iload_n 3, 1) rfl) rfl ?_
            refine x_aload_n (dtk dt_X12_dual 22 (34, .aload_n 0, 1) rfl) rfl ?_
            refine fg_X12_13 rfl (dtk dt_X12_dual 23 (35, .getfield 13, 3) rfl) (wk_36 hm.1) (wm_36_2 (WF.cr hm.1 _ _ _)) ?_
            refine x_iload_n (dtk dt_X12_dual 24 (38, .iload_n 2, 1) rfl) rfl ?_
            refine x_iald (dtk dt_X12_dual 25 (39, .iaload, 1) rfl) (wk_38 hm.1) ⟨by omega, by omega⟩ ?_
            rw [crM_38o]
            refine x_icmp_ge (tgt := 102) (dtk dt_X12_dual 26 (40, .if_icmp .ge 62, 3) rfl) (by decide) (fun c40 => ?_) (fun c40 => ?_)
            · skip
              refine x_iload_n (dtk dt_X12_dual 61 (102, .iload_n 2, 1) rfl) rfl ?_
              exact r_i (dtk dt_X12_dual 62 (103, .ireturn, 1) rfl) rfl (by simp_all <;> omega) (by first | (simp_all <;> omega) | (rw [if_pos c5, if_pos hlt, show v3 = M 38 o by omega]; exact crM_congr (fun e h0 h1 => dbl_e h0)))
            · skip
              refine x_iconst (v := 0) ⟨by decide, by decide⟩ (dtk dt_X12_dual 27 (43, .iconst 0, 1) rfl) ?_
              refine x_istore (dtk dt_X12_dual 28 (44, .istore 4, 2) rfl) (by decide) ?_
              have L46 : ∀ (fu : Nat) (v4 : Int), (0 ≤ v4 ∧ v4 ≤ M 38 o) → (M 38 o - v4).toNat = fu → MW G mi_X12_dual (rmd 3 0 0) (MZ G (PQ (some (0, if isOr M o then (if M 36 0 < 8 then M 36 0 else -1) else -1)) n K (if isOr M o then (if M 36 0 < 8 then crM M 0 (M 38 o) (dblF (M 38 o) (fun c e => rel (dM M o) e c)) else st2 M 36 12 2) else st2 M 36 12 1)) 0 0) (0, 0) 46 [(0, (1, 36)), (1, (0, o)), (2, (0, M 36 0)), (3, (0, v3)), (4, (0, v4))] [] n K (crM M 0 (M 38 o) (dbl (M 38 o) (fun c e => rel (dM M o) e c) (v3) (v4))) := by
                intro fu
                induction fu using Nat.strongRecOn with
                | ind fu ih46 =>
                  intro v4 h3 hk46
                  have hx := hA.crx (k := 0) (q := M 38 o) (f := dbl (M 38 o) (fun c e => rel (dM M o) e c) v3 v4) hor hlt hq (fun e h0 h1 => dbl_b hq (by omega) e)
                  refine x_iload (dtk dt_X12_dual 29 (46, .iload 4, 2) rfl) rfl ?_
                  refine x_aload_n (dtk dt_X12_dual 30 (48, .aload_n 0, 1) rfl) rfl ?_
                  refine fg_X12_13 rfl (dtk dt_X12_dual 31 (49, .getfield 13, 3) rfl) (wk_36 hm.1) (wm_36_2 (WF.cr hm.1 _ _ _)) ?_
                  refine x_iload_n (dtk dt_X12_dual 32 (52, .iload_n 2, 1) rfl) rfl ?_
                  refine x_iald (dtk dt_X12_dual 33 (53, .iaload, 1) rfl) (wk_38 hm.1) ⟨by omega, by omega⟩ ?_
                  rw [crM_38o]
                  refine x_icmp_ge (tgt := 96) (dtk dt_X12_dual 34 (54, .if_icmp .ge 42, 3) rfl) (by decide) (fun c54 => ?_) (fun c54 => ?_)
                  · skip
                    refine y_iinc (dtk dt_X12_dual 59 (96, .iinc 3 1, 3) rfl) rfl (by decide) ⟨by omega, by omega⟩ ?_
                    refine x_goto (tgt := 28) (dtk dt_X12_dual 60 (99, .goto (-71), 3) rfl) (by decide) ?_
                    refine MW.sub [1, 2, 3, 0] rfl ?_
                    refine MW.mem (crM_congr (g := dbl (M 38 o) (fun c e => rel (dM M o) e c) (v3 + 1) 0) (fun e h0 h1 => dbl_n (by omega) h0)) ?_
                    exact ih28 _ (by omega) _ (by omega) rfl
                  · skip
                    refine x_aload_n (dtk dt_X12_dual 35 (57, .aload_n 0, 1) rfl) rfl ?_
                    refine fg_X12_16 rfl (dtk dt_X12_dual 36 (58, .getfield 16, 3) rfl) (wk_36 hm.1) (wm_36_3 (WF.cr hm.1 _ _ _)) ?_
                    refine x_bipush (v := 10) ⟨by decide, by decide⟩ (dtk dt_X12_dual 37 (61, .bipush 10, 2) rfl) ?_
                    refine x_iload_n (dtk dt_X12_dual 38 (63, .iload_n 2, 1) rfl) rfl ?_
                    refine y_imul (dtk dt_X12_dual 39 (64, .imul, 1) rfl) ⟨by omega, by omega⟩ ?_
                    refine x_iload (dtk dt_X12_dual 40 (65, .iload 4, 2) rfl) rfl ?_
                    refine y_iadd (dtk dt_X12_dual 41 (67, .iadd, 1) rfl) ⟨by omega, by omega⟩ ?_
                    refine x_dup2 rfl rfl (dtk dt_X12_dual 42 (68, .dup2, 1) rfl) ?_
                    refine x_iald (dtk dt_X12_dual 43 (69, .iaload, 1) rfl) (wk_39 hm.1) ⟨by omega, by omega⟩ ?_
                    rw [crM_39o _ _ _ _ (by omega)]
                    refine x_aload_n (dtk dt_X12_dual 44 (70, .aload_n 0, 1) rfl) rfl ?_
                    refine x_iload_n (dtk dt_X12_dual 45 (71, .iload_n 1, 1) rfl) rfl ?_
                    refine x_iload (dtk dt_X12_dual 46 (72, .iload 4, 2) rfl) rfl ?_
                    refine x_iload_n (dtk dt_X12_dual 47 (74, .iload_n 3, 1) rfl) rfl ?_
                    refine kc_X12_86 rfl (dtk dt_X12_dual 48 (75, .invokevirtual 86, 3) rfl) (c_X12_isBelow (G := G)  hx.1 (by omega) (by omega)) rfl rfl (wk_36 hm.1) (fitR (by decide) (by decide)) (Nat.le_of_ble_eq_true rfl) (pqK ?_)
                    rw [rel_eq hx.2 (by omega)]
                    refine x_if_eqB (tgt := 87) (dtk dt_X12_dual 49 (78, .ifCond .eq 9, 3) rfl) (by decide) (fun c78 => ?_) (fun c78 => ?_)
                    · skip
                      refine x_iconst (v := 0) ⟨by decide, by decide⟩ (dtk dt_X12_dual 54 (87, .iconst 0, 1) rfl) ?_
                      refine x_ior (dtk dt_X12_dual 55 (88, .ior, 1) rfl) ?_
                      refine x_iast (dtk dt_X12_dual 56 (89, .iastore, 1) rfl) (wk_39 hm.1) ⟨by omega, by omega⟩ ?_
                      refine y_iinc (dtk dt_X12_dual 57 (90, .iinc 4 1, 3) rfl) rfl (by decide) ⟨by omega, by omega⟩ ?_
                      refine x_goto (tgt := 46) (dtk dt_X12_dual 58 (93, .goto (-47), 3) rfl) (by decide) ?_
                      refine MW.sub [1, 2, 3, 4, 0] rfl ?_
                      first | refine MW.mem (crM_dT (P := (fun c e => rel (dM M o) e c)) (by omega) hq.2 (by omega) c78) ?_ | refine MW.mem (crM_dF (P := (fun c e => rel (dM M o) e c)) (by omega) hq.2 (by omega) c78) ?_
                      exact ih46 _ (by omega) _ (by omega) rfl
                    · skip
                      refine x_iconst (v := 1) ⟨by decide, by decide⟩ (dtk dt_X12_dual 50 (81, .iconst 1, 1) rfl) ?_
                      refine x_iload_n (dtk dt_X12_dual 51 (82, .iload_n 3, 1) rfl) rfl ?_
                      refine x_ishl (dtk dt_X12_dual 52 (83, .ishl, 1) rfl) ?_
                      refine x_goto (tgt := 88) (dtk dt_X12_dual 53 (84, .goto 4, 3) rfl) (by decide) ?_
                      refine x_ior (dtk dt_X12_dual 55 (88, .ior, 1) rfl) ?_
                      refine x_iast (dtk dt_X12_dual 56 (89, .iastore, 1) rfl) (wk_39 hm.1) ⟨by omega, by omega⟩ ?_
                      refine y_iinc (dtk dt_X12_dual 57 (90, .iinc 4 1, 3) rfl) rfl (by decide) ⟨by omega, by omega⟩ ?_
                      refine x_goto (tgt := 46) (dtk dt_X12_dual 58 (93, .goto (-47), 3) rfl) (by decide) ?_
                      refine MW.sub [1, 2, 3, 4, 0] rfl ?_
                      first | refine MW.mem (crM_dT (P := (fun c e => rel (dM M o) e c)) (by omega) hq.2 (by omega) c78) ?_ | refine MW.mem (crM_dF (P := (fun c e => rel (dM M o) e c)) (by omega) hq.2 (by omega) c78) ?_
                      exact ih46 _ (by omega) _ (by omega) rfl
              refine MW.sub [1, 2, 3, 4, 0] rfl ?_
              exact L46 _ _ (by omega) rfl
      refine MW.sub [2, 3, 1, 0] rfl ?_
      refine MW.mem (crM_congr (g := dbl (M 38 o) (fun c e => rel (dM M o) e c) 0 0) (fun e h0 h1 => dbl_0 _ _ h0)) ?_
      exact L28 _ _ (by omega) rfl
    refine kc_X12_100 rfl (dtk dt_X12_dual 14 (22, .invokevirtual 100, 3) rfl) (c_X12_newOrder_no (G := G)  hm (by omega)) rfl rfl (wk_36 hm.1) (fitR (by decide) (by decide)) (Nat.le_of_ble_eq_true rfl) (pqK ?_)
    refine x_istore_n (dtk dt_X12_dual 15 (25, .istore_n 2, 1) rfl) (by decide) ?_
    refine x_iconst (v := 0) ⟨by decide, by decide⟩ (dtk dt_X12_dual 16 (26, .iconst 0, 1) rfl) ?_
    refine x_istore_n (dtk dt_X12_dual 17 (27, .istore_n 3, 1) rfl) (by decide) ?_
    refine x_iload_n (dtk dt_X12_dual 18 (28, .iload_n 2, 1) rfl) rfl ?_
    refine x_iconst (v := -1) ⟨by decide, by decide⟩ (dtk dt_X12_dual 19 (29, .iconst (-1), 1) rfl) ?_
    refine x_icmp_eq (tgt := 102) (dtk dt_X12_dual 20 (30, .if_icmp .eq 72, 3) rfl) (by decide) (fun c30 => ?_) (fun c30 => ?_)
    rotate_left
    · exact absurd (by decide) c30
    refine x_iload_n (dtk dt_X12_dual 61 (102, .iload_n 2, 1) rfl) rfl ?_
    exact r_i (dtk dt_X12_dual 62 (103, .ireturn, 1) rfl) rfl (by simp_all <;> omega) (by first | (simp_all <;> omega) | (rw [if_pos c5, if_pos hlt, show v3 = M 38 o by omega]; exact crM_congr (fun e h0 h1 => dbl_e h0)))
  · skip
    refine x_aload_n (dtk dt_X12_dual 4 (8, .aload_n 0, 1) rfl) rfl ?_
    refine x_iconst (v := 1) ⟨by decide, by decide⟩ (dtk dt_X12_dual 5 (9, .iconst 1, 1) rfl) ?_
    refine kc_X12_89 rfl (dtk dt_X12_dual 6 (10, .invokevirtual 89, 3) rfl) (c_X12_refused (G := G)  hm.1) rfl rfl (wk_36 hm.1) (fitR (by decide) (by decide)) (Nat.le_of_ble_eq_true rfl) (pqK ?_)
    exact r_i (dtk dt_X12_dual 7 (13, .ireturn, 1) rfl) rfl (by simp_all <;> omega) (by first | (simp_all <;> omega) | (rw [if_pos c5, if_pos hlt, show v3 = M 38 o by omega]; exact crM_congr (fun e h0 h1 => dbl_e h0)))
set_option maxRecDepth 100000 in
set_option maxHeartbeats 4000000 in
theorem c_X12_sideBySide {G : GG} {n : Nat} {K : KK} {M : MM} {o p : Int} {ab : Bool} (hm : MO K M) : MC G mi_X12_sideBySide 3 0 0 [(1, 36), (0, o), (0, p), (0, B (ab))] n K M (PQ (some (0, if isOr M o && isOr M p then (if M 36 0 < 8 ∧ M 38 o + M 38 p ≤ 10 then M 36 0 else -1) else -1)) n K (if isOr M o && isOr M p then (if M 36 0 < 8 ∧ M 38 o + M 38 p ≤ 10 then crM M (if ab then 1 else 2) (M 38 o + M 38 p) (fun b => if b < M 38 o + M 38 p then sbF (M 38 o) (dM M o) (dM M p) ab b else 0) else st2 M 36 12 2) else st2 M 36 12 1)) := by
  refine MC.intro (lc := [(0, (1, 36)), (1, (0, o)), (2, (0, p)), (3, (0, B (ab)))]) (by decide) rfl (by simp [Nat.ble]) (Nat.le_of_ble_eq_true rfl) rfl (fun hMR => ?_)
  have h0 := hm.2.1
  refine x_aload_n (dtk dt_X12_sideBySide 0 (0, .aload_n 0, 1) rfl) rfl ?_
  refine x_iload_n (dtk dt_X12_sideBySide 1 (1, .iload_n 1, 1) rfl) rfl ?_
  refine kc_X12_78 rfl (dtk dt_X12_sideBySide 2 (2, .invokevirtual 78, 3) rfl) (c_X12_isOrder (G := G)  hm) rfl rfl (wk_36 hm.1) (fitR (by decide) (by decide)) (Nat.le_of_ble_eq_true rfl) (pqK ?_)
  refine x_if_eqB (tgt := 16) (dtk dt_X12_sideBySide 3 (5, .ifCond .eq 11, 3) rfl) (by decide) (fun c5 => ?_) (fun c5 => ?_)
  · skip
    refine x_aload_n (dtk dt_X12_sideBySide 8 (16, .aload_n 0, 1) rfl) rfl ?_
    refine x_iconst (v := 1) ⟨by decide, by decide⟩ (dtk dt_X12_sideBySide 9 (17, .iconst 1, 1) rfl) ?_
    refine kc_X12_89 rfl (dtk dt_X12_sideBySide 10 (18, .invokevirtual 89, 3) rfl) (c_X12_refused (G := G)  hm.1) rfl rfl (wk_36 hm.1) (fitR (by decide) (by decide)) (Nat.le_of_ble_eq_true rfl) (pqK ?_)
    exact r_i (dtk dt_X12_sideBySide 11 (21, .ireturn, 1) rfl) rfl (by simp_all <;> omega) (by first | (simp_all <;> omega) | (rw [c5, c13]; simp only [Bool.and_self, if_true]; rw [if_pos hsp49_0, show v6 = M 38 o + M 38 p by omega]))
  · skip
    refine x_aload_n (dtk dt_X12_sideBySide 4 (8, .aload_n 0, 1) rfl) rfl ?_
    refine x_iload_n (dtk dt_X12_sideBySide 5 (9, .iload_n 2, 1) rfl) rfl ?_
    refine kc_X12_78 rfl (dtk dt_X12_sideBySide 6 (10, .invokevirtual 78, 3) rfl) (c_X12_isOrder (G := G)  hm) rfl rfl (wk_36 hm.1) (fitR (by decide) (by decide)) (Nat.le_of_ble_eq_true rfl) (pqK ?_)
    refine x_if_neB (tgt := 22) (dtk dt_X12_sideBySide 7 (13, .ifCond .ne 9, 3) rfl) (by decide) (fun c13 => ?_) (fun c13 => ?_)
    · skip
      have ho := isOr_of hm c5
      have hp := isOr_of hm c13
      have hA : AT K M o (M 38 o) (dM M o) := ⟨hm, ho, rfl, rfl⟩
      have hB : AT K M p (M 38 p) (dM M p) := ⟨hm, hp, rfl, rfl⟩
      have hz1 := hA.ok.1
      have hz2 := hB.ok.1
      have hor : o < M 36 0 := by (have := c5; unfold isOr at this; simp at this; omega)
      have hpr : p < M 36 0 := by (have := c13; unfold isOr at this; simp at this; omega)
      refine x_aload_n (dtk dt_X12_sideBySide 12 (22, .aload_n 0, 1) rfl) rfl ?_
      refine fg_X12_13 rfl (dtk dt_X12_sideBySide 13 (23, .getfield 13, 3) rfl) (wk_36 hm.1) (wm_36_2 hm.1) ?_
      refine x_iload_n (dtk dt_X12_sideBySide 14 (26, .iload_n 1, 1) rfl) rfl ?_
      refine x_iald (dtk dt_X12_sideBySide 15 (27, .iaload, 1) rfl) (wk_38 hm.1) ⟨by omega, by omega⟩ ?_
      refine x_istore (dtk dt_X12_sideBySide 16 (28, .istore 4, 2) rfl) (by decide) ?_
      refine x_aload_n (dtk dt_X12_sideBySide 17 (30, .aload_n 0, 1) rfl) rfl ?_
      have J40_6 : ∀ (jk : Int), (jk = (if ab then 1 else 2)) → MW G mi_X12_sideBySide (rmd 3 0 0) (MZ G (PQ (some (0, if isOr M o && isOr M p then (if M 36 0 < 8 ∧ M 38 o + M 38 p ≤ 10 then M 36 0 else -1) else -1)) n K (if isOr M o && isOr M p then (if M 36 0 < 8 ∧ M 38 o + M 38 p ≤ 10 then crM M (if ab then 1 else 2) (M 38 o + M 38 p) (fun b => if b < M 38 o + M 38 p then sbF (M 38 o) (dM M o) (dM M p) ab b else 0) else st2 M 36 12 2) else st2 M 36 12 1)) 0 0) (0, 0) 40 [(0, (1, 36)), (1, (0, o)), (2, (0, p)), (3, (0, B (ab))), (4, (0, M 38 o))] [(0, jk), (1, 36)] n K (M) := by
        intro jk hJ
        refine x_iload (dtk dt_X12_sideBySide 23 (40, .iload 4, 2) rfl) rfl ?_
        refine x_aload_n (dtk dt_X12_sideBySide 24 (42, .aload_n 0, 1) rfl) rfl ?_
        refine fg_X12_13 rfl (dtk dt_X12_sideBySide 25 (43, .getfield 13, 3) rfl) (wk_36 hm.1) (wm_36_2 hm.1) ?_
        refine x_iload_n (dtk dt_X12_sideBySide 26 (46, .iload_n 2, 1) rfl) rfl ?_
        refine x_iald (dtk dt_X12_sideBySide 27 (47, .iaload, 1) rfl) (wk_38 hm.1) ⟨by omega, by omega⟩ ?_
        refine y_iadd (dtk dt_X12_sideBySide 28 (48, .iadd, 1) rfl) ⟨by omega, by omega⟩ ?_
        by_cases hsp49_0 : M 36 0 < 8 ∧ M 38 o + M 38 p ≤ 10
        · skip
          have hlt : M 36 0 < 8 := hsp49_0.1
          have hq : 0 ≤ M 38 o + M 38 p ∧ M 38 o + M 38 p ≤ 10 := by omega
          subst hJ
          refine kc_X12_100 rfl (dtk dt_X12_sideBySide 29 (49, .invokevirtual 100, 3) rfl) (c_X12_newOrder (G := G)  hm (by omega) (by omega)) rfl rfl (wk_36 hm.1) (fitR (by decide) (by decide)) (Nat.le_of_ble_eq_true rfl) (pqK ?_)
          refine x_istore (dtk dt_X12_sideBySide 30 (52, .istore 5, 2) rfl) (by decide) ?_
          refine x_iconst (v := 0) ⟨by decide, by decide⟩ (dtk dt_X12_sideBySide 31 (54, .iconst 0, 1) rfl) ?_
          refine x_istore (dtk dt_X12_sideBySide 32 (55, .istore 6, 2) rfl) (by decide) ?_
          have L57 : ∀ (fu : Nat) (v6 : Int), (0 ≤ v6 ∧ v6 ≤ M 38 o + M 38 p) → (M 38 o + M 38 p - v6).toNat = fu → MW G mi_X12_sideBySide (rmd 3 0 0) (MZ G (PQ (some (0, if isOr M o && isOr M p then (if M 36 0 < 8 ∧ M 38 o + M 38 p ≤ 10 then M 36 0 else -1) else -1)) n K (if isOr M o && isOr M p then (if M 36 0 < 8 ∧ M 38 o + M 38 p ≤ 10 then crM M (if ab then 1 else 2) (M 38 o + M 38 p) (fun b => if b < M 38 o + M 38 p then sbF (M 38 o) (dM M o) (dM M p) ab b else 0) else st2 M 36 12 2) else st2 M 36 12 1)) 0 0) (0, 0) 57 [(0, (1, 36)), (1, (0, o)), (2, (0, p)), (3, (0, B (ab))), (4, (0, M 38 o)), (5, (0, M 36 0)), (6, (0, v6))] [] n K (crM M (if ab then 1 else 2) (M 38 o + M 38 p) (fun b => if b < v6 then sbF (M 38 o) (dM M o) (dM M p) ab b else 0)) := by
            intro fu
            induction fu using Nat.strongRecOn with
            | ind fu ih57 =>
              intro v6 h1 hk57
              refine x_iload (dtk dt_X12_sideBySide 33 (57, .iload 5, 2) rfl) rfl ?_
              refine x_iconst (v := -1) ⟨by decide, by decide⟩ (dtk dt_X12_sideBySide 34 (59, .iconst (-1), 1) rfl) ?_
              refine x_icmp_eq (tgt := 149) (dtk dt_X12_sideBySide 35 (60, .if_icmp .eq 89, 3) rfl) (by decide) (fun c60 => ?_) (fun c60 => ?_)
              · skip
                exact absurd c60 (by omega)
              · skip
                refine x_iload (dtk dt_X12_sideBySide 36 (63, .iload 6, 2) rfl) rfl ?_
                refine x_aload_n (dtk dt_X12_sideBySide 37 (65, .aload_n 0, 1) rfl) rfl ?_
                refine fg_X12_13 rfl (dtk dt_X12_sideBySide 38 (66, .getfield 13, 3) rfl) (wk_36 hm.1) (wm_36_2 (WF.cr hm.1 _ _ _)) ?_
                refine x_iload (dtk dt_X12_sideBySide 39 (69, .iload 5, 2) rfl) rfl ?_
                refine x_iald (dtk dt_X12_sideBySide 40 (71, .iaload, 1) rfl) (wk_38 hm.1) ⟨by omega, by omega⟩ ?_
                rw [crM_38o]
                refine x_icmp_ge (tgt := 149) (dtk dt_X12_sideBySide 41 (72, .if_icmp .ge 77, 3) rfl) (by decide) (fun c72 => ?_) (fun c72 => ?_)
                · skip
                  refine x_iload (dtk dt_X12_sideBySide 86 (149, .iload 5, 2) rfl) rfl ?_
                  exact r_i (dtk dt_X12_sideBySide 87 (151, .ireturn, 1) rfl) rfl (by simp_all <;> omega) (by first | (simp_all <;> omega) | (rw [c5, c13]; simp only [Bool.and_self, if_true]; rw [if_pos hsp49_0, show v6 = M 38 o + M 38 p by omega]))
                · skip
                  refine x_aload_n (dtk dt_X12_sideBySide 42 (75, .aload_n 0, 1) rfl) rfl ?_
                  refine fg_X12_16 rfl (dtk dt_X12_sideBySide 43 (76, .getfield 16, 3) rfl) (wk_36 hm.1) (wm_36_3 (WF.cr hm.1 _ _ _)) ?_
                  refine x_bipush (v := 10) ⟨by decide, by decide⟩ (dtk dt_X12_sideBySide 44 (79, .bipush 10, 2) rfl) ?_
                  refine x_iload (dtk dt_X12_sideBySide 45 (81, .iload 5, 2) rfl) rfl ?_
                  refine y_imul (dtk dt_X12_sideBySide 46 (83, .imul, 1) rfl) ⟨by omega, by omega⟩ ?_
                  refine x_iload (dtk dt_X12_sideBySide 47 (84, .iload 6, 2) rfl) rfl ?_
                  refine y_iadd (dtk dt_X12_sideBySide 48 (86, .iadd, 1) rfl) ⟨by omega, by omega⟩ ?_
                  refine x_iload (dtk dt_X12_sideBySide 49 (87, .iload 6, 2) rfl) rfl ?_
                  refine x_iload (dtk dt_X12_sideBySide 50 (89, .iload 4, 2) rfl) rfl ?_
                  refine x_icmp_ge (tgt := 109) (dtk dt_X12_sideBySide 51 (91, .if_icmp .ge 18, 3) rfl) (by decide) (fun c91 => ?_) (fun c91 => ?_)
                  · skip
                    refine x_aload_n (dtk dt_X12_sideBySide 61 (109, .aload_n 0, 1) rfl) rfl ?_
                    refine fg_X12_16 rfl (dtk dt_X12_sideBySide 62 (110, .getfield 16, 3) rfl) (wk_36 hm.1) (wm_36_3 (WF.cr hm.1 _ _ _)) ?_
                    refine x_bipush (v := 10) ⟨by decide, by decide⟩ (dtk dt_X12_sideBySide 63 (113, .bipush 10, 2) rfl) ?_
                    refine x_iload_n (dtk dt_X12_sideBySide 64 (115, .iload_n 2, 1) rfl) rfl ?_
                    refine y_imul (dtk dt_X12_sideBySide 65 (116, .imul, 1) rfl) ⟨by omega, by omega⟩ ?_
                    refine x_iload (dtk dt_X12_sideBySide 66 (117, .iload 6, 2) rfl) rfl ?_
                    refine y_iadd (dtk dt_X12_sideBySide 67 (119, .iadd, 1) rfl) ⟨by omega, by omega⟩ ?_
                    refine x_iload (dtk dt_X12_sideBySide 68 (120, .iload 4, 2) rfl) rfl ?_
                    refine y_isub (dtk dt_X12_sideBySide 69 (122, .isub, 1) rfl) ⟨by omega, by omega⟩ ?_
                    refine x_iald (dtk dt_X12_sideBySide 70 (123, .iaload, 1) rfl) (wk_39 hm.1) ⟨by omega, by omega⟩ ?_
                    rw [crM_39n _ _ _ _ (by omega)]
                    refine x_iload (dtk dt_X12_sideBySide 71 (124, .iload 4, 2) rfl) rfl ?_
                    refine x_ishl (dtk dt_X12_sideBySide 72 (126, .ishl, 1) rfl) ?_
                    refine x_iload_n (dtk dt_X12_sideBySide 73 (127, .iload_n 3, 1) rfl) rfl ?_
                    refine x_if_eqB (tgt := 140) (dtk dt_X12_sideBySide 74 (128, .ifCond .eq 12, 3) rfl) (by decide) (fun c128 => ?_) (fun c128 => ?_)
                    · skip
                      refine x_iconst (v := 0) ⟨by decide, by decide⟩ (dtk dt_X12_sideBySide 81 (140, .iconst 0, 1) rfl) ?_
                      refine x_ior (dtk dt_X12_sideBySide 82 (141, .ior, 1) rfl) ?_
                      refine x_iast (dtk dt_X12_sideBySide 83 (142, .iastore, 1) rfl) (wk_39 hm.1) ⟨by omega, by omega⟩ ?_
                      refine y_iinc (dtk dt_X12_sideBySide 84 (143, .iinc 6 1, 3) rfl) rfl (by decide) ⟨by omega, by omega⟩ ?_
                      refine x_goto (tgt := 57) (dtk dt_X12_sideBySide 85 (146, .goto (-89), 3) rfl) (by decide) ?_
                      refine MW.sub [1, 2, 3, 4, 5, 6, 0] rfl ?_
                      refine MW.mem ((crM_st (by omega)).trans (crM_congr (g := fun b => if b < v6 + 1 then sbF (M 38 o) (dM M o) (dM M p) ab b else 0) (fun e h0 h1 => ?_))) ?_
                      · by_cases he : e = v6
                        · rw [if_pos he, if_pos (show e < v6 + 1 by omega), he]; first | (rw [sbF_lo (by omega)]; rfl) | (rw [sbF_hi (by omega), c128]; unfold dM; rw [show 10 * p + v6 - M 38 o = 10 * p + (v6 - M 38 o) by omega]; rfl)
                        · rw [if_neg he]; by_cases h2 : e < v6; (rw [if_pos h2, if_pos (by omega)]); (rw [if_neg h2, if_neg (by omega)])
                      exact ih57 _ (by omega) _ (by omega) rfl
                    · skip
                      refine x_iconst (v := 1) ⟨by decide, by decide⟩ (dtk dt_X12_sideBySide 75 (131, .iconst 1, 1) rfl) ?_
                      refine x_iload (dtk dt_X12_sideBySide 76 (132, .iload 4, 2) rfl) rfl ?_
                      refine x_ishl (dtk dt_X12_sideBySide 77 (134, .ishl, 1) rfl) ?_
                      change MW G _ _ _ _ _ _ ((0, p2 (M 38 o)) :: _) _ _ _
                      have hpp := p2_b hz1
                      refine x_iconst (v := 1) ⟨by decide, by decide⟩ (dtk dt_X12_sideBySide 78 (135, .iconst 1, 1) rfl) ?_
                      refine y_isub (dtk dt_X12_sideBySide 79 (136, .isub, 1) rfl) ⟨by omega, by omega⟩ ?_
                      refine x_goto (tgt := 141) (dtk dt_X12_sideBySide 80 (137, .goto 4, 3) rfl) (by decide) ?_
                      refine x_ior (dtk dt_X12_sideBySide 82 (141, .ior, 1) rfl) ?_
                      refine x_iast (dtk dt_X12_sideBySide 83 (142, .iastore, 1) rfl) (wk_39 hm.1) ⟨by omega, by omega⟩ ?_
                      refine y_iinc (dtk dt_X12_sideBySide 84 (143, .iinc 6 1, 3) rfl) rfl (by decide) ⟨by omega, by omega⟩ ?_
                      refine x_goto (tgt := 57) (dtk dt_X12_sideBySide 85 (146, .goto (-89), 3) rfl) (by decide) ?_
                      refine MW.sub [1, 2, 3, 4, 5, 6, 0] rfl ?_
                      refine MW.mem ((crM_st (by omega)).trans (crM_congr (g := fun b => if b < v6 + 1 then sbF (M 38 o) (dM M o) (dM M p) ab b else 0) (fun e h0 h1 => ?_))) ?_
                      · by_cases he : e = v6
                        · rw [if_pos he, if_pos (show e < v6 + 1 by omega), he]; first | (rw [sbF_lo (by omega)]; rfl) | (rw [sbF_hi (by omega), c128]; unfold dM; rw [show 10 * p + v6 - M 38 o = 10 * p + (v6 - M 38 o) by omega]; rfl)
                        · rw [if_neg he]; by_cases h2 : e < v6; (rw [if_pos h2, if_pos (by omega)]); (rw [if_neg h2, if_neg (by omega)])
                      exact ih57 _ (by omega) _ (by omega) rfl
                  · skip
                    refine x_aload_n (dtk dt_X12_sideBySide 52 (94, .aload_n 0, 1) rfl) rfl ?_
                    refine fg_X12_16 rfl (dtk dt_X12_sideBySide 53 (95, .getfield 16, 3) rfl) (wk_36 hm.1) (wm_36_3 (WF.cr hm.1 _ _ _)) ?_
                    refine x_bipush (v := 10) ⟨by decide, by decide⟩ (dtk dt_X12_sideBySide 54 (98, .bipush 10, 2) rfl) ?_
                    refine x_iload_n (dtk dt_X12_sideBySide 55 (100, .iload_n 1, 1) rfl) rfl ?_
                    refine y_imul (dtk dt_X12_sideBySide 56 (101, .imul, 1) rfl) ⟨by omega, by omega⟩ ?_
                    refine x_iload (dtk dt_X12_sideBySide 57 (102, .iload 6, 2) rfl) rfl ?_
                    refine y_iadd (dtk dt_X12_sideBySide 58 (104, .iadd, 1) rfl) ⟨by omega, by omega⟩ ?_
                    refine x_iald (dtk dt_X12_sideBySide 59 (105, .iaload, 1) rfl) (wk_39 hm.1) ⟨by omega, by omega⟩ ?_
                    rw [crM_39n _ _ _ _ (by omega)]
                    refine x_goto (tgt := 142) (dtk dt_X12_sideBySide 60 (106, .goto 36, 3) rfl) (by decide) ?_
                    refine x_iast (dtk dt_X12_sideBySide 83 (142, .iastore, 1) rfl) (wk_39 hm.1) ⟨by omega, by omega⟩ ?_
                    refine y_iinc (dtk dt_X12_sideBySide 84 (143, .iinc 6 1, 3) rfl) rfl (by decide) ⟨by omega, by omega⟩ ?_
                    refine x_goto (tgt := 57) (dtk dt_X12_sideBySide 85 (146, .goto (-89), 3) rfl) (by decide) ?_
                    refine MW.sub [1, 2, 3, 4, 5, 6, 0] rfl ?_
                    refine MW.mem ((crM_st (by omega)).trans (crM_congr (g := fun b => if b < v6 + 1 then sbF (M 38 o) (dM M o) (dM M p) ab b else 0) (fun e h0 h1 => ?_))) ?_
                    · by_cases he : e = v6
                      · rw [if_pos he, if_pos (show e < v6 + 1 by omega), he]; first | (rw [sbF_lo (by omega)]; rfl) | (rw [sbF_hi (by omega), c128]; unfold dM; rw [show 10 * p + v6 - M 38 o = 10 * p + (v6 - M 38 o) by omega]; rfl)
                      · rw [if_neg he]; by_cases h2 : e < v6; (rw [if_pos h2, if_pos (by omega)]); (rw [if_neg h2, if_neg (by omega)])
                    exact ih57 _ (by omega) _ (by omega) rfl
          refine MW.sub [2, 3, 4, 5, 6, 1, 0] rfl ?_
          refine MW.mem (crM_congr (g := fun b => if b < 0 then sbF (M 38 o) (dM M o) (dM M p) ab b else 0) (fun e h0 h1 => by simp; omega)) ?_
          exact L57 _ _ (by omega) rfl
        refine kc_X12_100 rfl (dtk dt_X12_sideBySide 29 (49, .invokevirtual 100, 3) rfl) (c_X12_newOrder_no (G := G)  hm (by omega)) rfl rfl (wk_36 hm.1) (fitR (by decide) (by decide)) (Nat.le_of_ble_eq_true rfl) (pqK ?_)
        refine x_istore (dtk dt_X12_sideBySide 30 (52, .istore 5, 2) rfl) (by decide) ?_
        refine x_iconst (v := 0) ⟨by decide, by decide⟩ (dtk dt_X12_sideBySide 31 (54, .iconst 0, 1) rfl) ?_
        refine x_istore (dtk dt_X12_sideBySide 32 (55, .istore 6, 2) rfl) (by decide) ?_
        refine x_iload (dtk dt_X12_sideBySide 33 (57, .iload 5, 2) rfl) rfl ?_
        refine x_iconst (v := -1) ⟨by decide, by decide⟩ (dtk dt_X12_sideBySide 34 (59, .iconst (-1), 1) rfl) ?_
        refine x_icmp_eq (tgt := 149) (dtk dt_X12_sideBySide 35 (60, .if_icmp .eq 89, 3) rfl) (by decide) (fun c60 => ?_) (fun c60 => ?_)
        rotate_left
        · exact absurd (by decide) c60
        refine x_iload (dtk dt_X12_sideBySide 86 (149, .iload 5, 2) rfl) rfl ?_
        exact r_i (dtk dt_X12_sideBySide 87 (151, .ireturn, 1) rfl) rfl (by simp_all <;> omega) (by first | (simp_all <;> omega) | (rw [c5, c13]; simp only [Bool.and_self, if_true]; rw [if_pos hsp49_0, show v6 = M 38 o + M 38 p by omega]))
      refine x_iload_n (dtk dt_X12_sideBySide 18 (31, .iload_n 3, 1) rfl) rfl ?_
      refine x_if_eqB (tgt := 39) (dtk dt_X12_sideBySide 19 (32, .ifCond .eq 7, 3) rfl) (by decide) (fun c32 => ?_) (fun c32 => ?_)
      · skip
        refine x_iconst (v := 2) ⟨by decide, by decide⟩ (dtk dt_X12_sideBySide 22 (39, .iconst 2, 1) rfl) ?_
        refine MW.sub [1, 2, 3, 4, 0] rfl ?_
        exact J40_6 _ (by simp [c32])
      · skip
        refine x_iconst (v := 1) ⟨by decide, by decide⟩ (dtk dt_X12_sideBySide 20 (35, .iconst 1, 1) rfl) ?_
        refine x_goto (tgt := 40) (dtk dt_X12_sideBySide 21 (36, .goto 4, 3) rfl) (by decide) ?_
        refine MW.sub [1, 2, 3, 4, 0] rfl ?_
        exact J40_6 _ (by simp [c32])
    · skip
      refine x_aload_n (dtk dt_X12_sideBySide 8 (16, .aload_n 0, 1) rfl) rfl ?_
      refine x_iconst (v := 1) ⟨by decide, by decide⟩ (dtk dt_X12_sideBySide 9 (17, .iconst 1, 1) rfl) ?_
      refine kc_X12_89 rfl (dtk dt_X12_sideBySide 10 (18, .invokevirtual 89, 3) rfl) (c_X12_refused (G := G)  hm.1) rfl rfl (wk_36 hm.1) (fitR (by decide) (by decide)) (Nat.le_of_ble_eq_true rfl) (pqK ?_)
      exact r_i (dtk dt_X12_sideBySide 11 (21, .ireturn, 1) rfl) rfl (by simp_all <;> omega) (by first | (simp_all <;> omega) | (rw [c5, c13]; simp only [Bool.and_self, if_true]; rw [if_pos hsp49_0, show v6 = M 38 o + M 38 p by omega]))
set_option maxRecDepth 100000 in
set_option maxHeartbeats 4000000 in
theorem c_X12_stack {G : GG} {n : Nat} {K : KK} {M : MM} {o p : Int} (hm : MO K M) : MC G mi_X12_stack 4 0 0 [(1, 36), (0, o), (0, p)] n K M (PQ (some (0, if isOr M o && isOr M p then (if M 36 0 < 8 ∧ M 38 o + M 38 p ≤ 10 then M 36 0 else -1) else -1)) n K (if isOr M o && isOr M p then (if M 36 0 < 8 ∧ M 38 o + M 38 p ≤ 10 then crM M (if true then 1 else 2) (M 38 o + M 38 p) (fun b => if b < M 38 o + M 38 p then sbF (M 38 o) (dM M o) (dM M p) true b else 0) else st2 M 36 12 2) else st2 M 36 12 1)) := by
  refine MC.intro (lc := [(0, (1, 36)), (1, (0, o)), (2, (0, p))]) (by decide) rfl (by simp [Nat.ble]) (Nat.le_of_ble_eq_true rfl) rfl (fun hMR => ?_)
  refine x_aload_n (dtk dt_X12_stack 0 (0, .aload_n 0, 1) rfl) rfl ?_
  refine x_iload_n (dtk dt_X12_stack 1 (1, .iload_n 1, 1) rfl) rfl ?_
  refine x_iload_n (dtk dt_X12_stack 2 (2, .iload_n 2, 1) rfl) rfl ?_
  refine x_iconst (v := 1) ⟨by decide, by decide⟩ (dtk dt_X12_stack 3 (3, .iconst 1, 1) rfl) ?_
  refine kc_X12_120 rfl (dtk dt_X12_stack 4 (4, .invokevirtual 120, 3) rfl) (c_X12_sideBySide (G := G) (ab := true) hm) rfl rfl (wk_36 hm.1) (fitR (by decide) (by decide)) (Nat.le_of_ble_eq_true rfl) (pqK ?_)
  exact r_i (dtk dt_X12_stack 5 (7, .ireturn, 1) rfl) rfl rfl rfl
set_option maxRecDepth 100000 in
set_option maxHeartbeats 4000000 in
theorem c_X12_beside {G : GG} {n : Nat} {K : KK} {M : MM} {o p : Int} (hm : MO K M) : MC G mi_X12_beside 4 0 0 [(1, 36), (0, o), (0, p)] n K M (PQ (some (0, if isOr M o && isOr M p then (if M 36 0 < 8 ∧ M 38 o + M 38 p ≤ 10 then M 36 0 else -1) else -1)) n K (if isOr M o && isOr M p then (if M 36 0 < 8 ∧ M 38 o + M 38 p ≤ 10 then crM M 2 (M 38 o + M 38 p) (fun b => if b < M 38 o + M 38 p then sbF (M 38 o) (dM M o) (dM M p) false b else 0) else st2 M 36 12 2) else st2 M 36 12 1)) := by
  refine MC.intro (lc := [(0, (1, 36)), (1, (0, o)), (2, (0, p))]) (by decide) rfl (by simp [Nat.ble]) (Nat.le_of_ble_eq_true rfl) rfl (fun hMR => ?_)
  refine x_aload_n (dtk dt_X12_beside 0 (0, .aload_n 0, 1) rfl) rfl ?_
  refine x_iload_n (dtk dt_X12_beside 1 (1, .iload_n 1, 1) rfl) rfl ?_
  refine x_iload_n (dtk dt_X12_beside 2 (2, .iload_n 2, 1) rfl) rfl ?_
  refine x_iconst (v := 0) ⟨by decide, by decide⟩ (dtk dt_X12_beside 3 (3, .iconst 0, 1) rfl) ?_
  refine kc_X12_120 rfl (dtk dt_X12_beside 4 (4, .invokevirtual 120, 3) rfl) (c_X12_sideBySide (G := G) (ab := false) hm) rfl rfl (wk_36 hm.1) (fitR (by decide) (by decide)) (Nat.le_of_ble_eq_true rfl) (pqK ?_)
  exact r_i (dtk dt_X12_beside 5 (7, .ireturn, 1) rfl) rfl rfl rfl
