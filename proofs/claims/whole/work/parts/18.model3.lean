/-! ===== the model: more questions ===== -/
set_option maxRecDepth 100000 in
set_option maxHeartbeats 4000000 in
theorem c_X12_isBent {G : GG} {n : Nat} {K : KK} {M : MM} {o a b c e : Int} {m : Int} {d : Int → Int} (hA : AT K M o m d) (ha : 0 ≤ a ∧ a < 10) (hb : 0 ≤ b ∧ b < 10) (hc : 0 ≤ c ∧ c < 10) (he : 0 ≤ e ∧ e < 10) : MC G mi_X12_isBent 4 0 0 [(1, 36), (0, o), (0, a), (0, b), (0, c), (0, e)] n K M (PQ (some (0, B (bent4 d a b c e))) n K (M)) := by
  refine MC.intro (lc := [(0, (1, 36)), (1, (0, o)), (2, (0, a)), (3, (0, b)), (4, (0, c)), (5, (0, e))]) (by decide) rfl (by simp [Nat.ble]) (Nat.le_of_ble_eq_true rfl) rfl (fun hMR => ?_)
  have J38_2 : ∀ (j : Bool), (j = (rel d a c && rel d b c && rel d b e)) → MW G mi_X12_isBent (rmd 4 0 0) (MZ G (PQ (some (0, B (bent4 d a b c e))) n K (M)) 0 0) (0, 0) 38 [(0, (1, 36)), (1, (0, o)), (2, (0, a)), (3, (0, b)), (4, (0, c)), (5, (0, e))] [(0, B j)] n K (M) := by
    intro j hJ
    refine x_istore (dtk dt_X12_isBent 21 (38, .istore 6, 2) rfl) (by decide) ?_
    refine x_iload (dtk dt_X12_isBent 22 (40, .iload 6, 2) rfl) rfl ?_
    refine x_if_eqB (tgt := 82) (dtk dt_X12_isBent 23 (42, .ifCond .eq 40, 3) rfl) (by decide) (fun c42 => ?_) (fun c42 => ?_)
    · skip
      refine x_iconst (v := 0) ⟨by decide, by decide⟩ (dtk dt_X12_isBent 44 (82, .iconst 0, 1) rfl) ?_
      exact r_b (b := false) (dtk dt_X12_isBent 45 (83, .ireturn, 1) rfl) rfl (by unfold bent4; simp_all) rfl
    · skip
      refine x_aload_n (dtk dt_X12_isBent 24 (45, .aload_n 0, 1) rfl) rfl ?_
      refine x_iload_n (dtk dt_X12_isBent 25 (46, .iload_n 1, 1) rfl) rfl ?_
      refine x_iload_n (dtk dt_X12_isBent 26 (47, .iload_n 2, 1) rfl) rfl ?_
      refine x_iload_n (dtk dt_X12_isBent 27 (48, .iload_n 3, 1) rfl) rfl ?_
      refine kc_X12_157 rfl (dtk dt_X12_isBent 28 (49, .invokevirtual 157, 3) rfl) (c_X12_isApart (G := G)  hA (by omega) (by omega)) rfl rfl (wk_36 hA.wf) (fitR (by decide) (by decide)) (Nat.le_of_ble_eq_true rfl) (pqK ?_)
      refine x_if_eqB (tgt := 82) (dtk dt_X12_isBent 29 (52, .ifCond .eq 30, 3) rfl) (by decide) (fun c52 => ?_) (fun c52 => ?_)
      · skip
        refine x_iconst (v := 0) ⟨by decide, by decide⟩ (dtk dt_X12_isBent 44 (82, .iconst 0, 1) rfl) ?_
        exact r_b (b := false) (dtk dt_X12_isBent 45 (83, .ireturn, 1) rfl) rfl (by unfold bent4; simp_all) rfl
      · skip
        refine x_aload_n (dtk dt_X12_isBent 30 (55, .aload_n 0, 1) rfl) rfl ?_
        refine x_iload_n (dtk dt_X12_isBent 31 (56, .iload_n 1, 1) rfl) rfl ?_
        refine x_iload_n (dtk dt_X12_isBent 32 (57, .iload_n 2, 1) rfl) rfl ?_
        refine x_iload (dtk dt_X12_isBent 33 (58, .iload 5, 2) rfl) rfl ?_
        refine kc_X12_157 rfl (dtk dt_X12_isBent 34 (60, .invokevirtual 157, 3) rfl) (c_X12_isApart (G := G)  hA (by omega) (by omega)) rfl rfl (wk_36 hA.wf) (fitR (by decide) (by decide)) (Nat.le_of_ble_eq_true rfl) (pqK ?_)
        refine x_if_eqB (tgt := 82) (dtk dt_X12_isBent 35 (63, .ifCond .eq 19, 3) rfl) (by decide) (fun c63 => ?_) (fun c63 => ?_)
        · skip
          refine x_iconst (v := 0) ⟨by decide, by decide⟩ (dtk dt_X12_isBent 44 (82, .iconst 0, 1) rfl) ?_
          exact r_b (b := false) (dtk dt_X12_isBent 45 (83, .ireturn, 1) rfl) rfl (by unfold bent4; simp_all) rfl
        · skip
          refine x_aload_n (dtk dt_X12_isBent 36 (66, .aload_n 0, 1) rfl) rfl ?_
          refine x_iload_n (dtk dt_X12_isBent 37 (67, .iload_n 1, 1) rfl) rfl ?_
          refine x_iload (dtk dt_X12_isBent 38 (68, .iload 4, 2) rfl) rfl ?_
          refine x_iload (dtk dt_X12_isBent 39 (70, .iload 5, 2) rfl) rfl ?_
          refine kc_X12_157 rfl (dtk dt_X12_isBent 40 (72, .invokevirtual 157, 3) rfl) (c_X12_isApart (G := G)  hA (by omega) (by omega)) rfl rfl (wk_36 hA.wf) (fitR (by decide) (by decide)) (Nat.le_of_ble_eq_true rfl) (pqK ?_)
          refine x_if_eqB (tgt := 82) (dtk dt_X12_isBent 41 (75, .ifCond .eq 7, 3) rfl) (by decide) (fun c75 => ?_) (fun c75 => ?_)
          · skip
            refine x_iconst (v := 0) ⟨by decide, by decide⟩ (dtk dt_X12_isBent 44 (82, .iconst 0, 1) rfl) ?_
            exact r_b (b := false) (dtk dt_X12_isBent 45 (83, .ireturn, 1) rfl) rfl (by unfold bent4; simp_all) rfl
          · skip
            refine x_iconst (v := 1) ⟨by decide, by decide⟩ (dtk dt_X12_isBent 42 (78, .iconst 1, 1) rfl) ?_
            refine x_goto (tgt := 83) (dtk dt_X12_isBent 43 (79, .goto 4, 3) rfl) (by decide) ?_
            exact r_b (b := true) (dtk dt_X12_isBent 45 (83, .ireturn, 1) rfl) rfl (by unfold bent4; simp_all) rfl
  refine x_aload_n (dtk dt_X12_isBent 0 (0, .aload_n 0, 1) rfl) rfl ?_
  refine x_iload_n (dtk dt_X12_isBent 1 (1, .iload_n 1, 1) rfl) rfl ?_
  refine x_iload_n (dtk dt_X12_isBent 2 (2, .iload_n 2, 1) rfl) rfl ?_
  refine x_iload (dtk dt_X12_isBent 3 (3, .iload 4, 2) rfl) rfl ?_
  refine kc_X12_86 rfl (dtk dt_X12_isBent 4 (5, .invokevirtual 86, 3) rfl) (c_X12_isBelow (G := G)  hA (by omega) (by omega)) rfl rfl (wk_36 hA.wf) (fitR (by decide) (by decide)) (Nat.le_of_ble_eq_true rfl) (pqK ?_)
  refine x_if_eqB (tgt := 37) (dtk dt_X12_isBent 5 (8, .ifCond .eq 29, 3) rfl) (by decide) (fun c8 => ?_) (fun c8 => ?_)
  · skip
    refine x_iconst (v := 0) ⟨by decide, by decide⟩ (dtk dt_X12_isBent 20 (37, .iconst 0, 1) rfl) ?_
    refine MW.sub [0, 1, 2, 3, 4, 5] rfl ?_
    exact J38_2 false (by clear J38_2; simp_all)
  · skip
    refine x_aload_n (dtk dt_X12_isBent 6 (11, .aload_n 0, 1) rfl) rfl ?_
    refine x_iload_n (dtk dt_X12_isBent 7 (12, .iload_n 1, 1) rfl) rfl ?_
    refine x_iload_n (dtk dt_X12_isBent 8 (13, .iload_n 3, 1) rfl) rfl ?_
    refine x_iload (dtk dt_X12_isBent 9 (14, .iload 4, 2) rfl) rfl ?_
    refine kc_X12_86 rfl (dtk dt_X12_isBent 10 (16, .invokevirtual 86, 3) rfl) (c_X12_isBelow (G := G)  hA (by omega) (by omega)) rfl rfl (wk_36 hA.wf) (fitR (by decide) (by decide)) (Nat.le_of_ble_eq_true rfl) (pqK ?_)
    refine x_if_eqB (tgt := 37) (dtk dt_X12_isBent 11 (19, .ifCond .eq 18, 3) rfl) (by decide) (fun c19 => ?_) (fun c19 => ?_)
    · skip
      refine x_iconst (v := 0) ⟨by decide, by decide⟩ (dtk dt_X12_isBent 20 (37, .iconst 0, 1) rfl) ?_
      refine MW.sub [0, 1, 2, 3, 4, 5] rfl ?_
      exact J38_2 false (by clear J38_2; simp_all)
    · skip
      refine x_aload_n (dtk dt_X12_isBent 12 (22, .aload_n 0, 1) rfl) rfl ?_
      refine x_iload_n (dtk dt_X12_isBent 13 (23, .iload_n 1, 1) rfl) rfl ?_
      refine x_iload_n (dtk dt_X12_isBent 14 (24, .iload_n 3, 1) rfl) rfl ?_
      refine x_iload (dtk dt_X12_isBent 15 (25, .iload 5, 2) rfl) rfl ?_
      refine kc_X12_86 rfl (dtk dt_X12_isBent 16 (27, .invokevirtual 86, 3) rfl) (c_X12_isBelow (G := G)  hA (by omega) (by omega)) rfl rfl (wk_36 hA.wf) (fitR (by decide) (by decide)) (Nat.le_of_ble_eq_true rfl) (pqK ?_)
      refine x_if_eqB (tgt := 37) (dtk dt_X12_isBent 17 (30, .ifCond .eq 7, 3) rfl) (by decide) (fun c30 => ?_) (fun c30 => ?_)
      · skip
        refine x_iconst (v := 0) ⟨by decide, by decide⟩ (dtk dt_X12_isBent 20 (37, .iconst 0, 1) rfl) ?_
        refine MW.sub [0, 1, 2, 3, 4, 5] rfl ?_
        exact J38_2 false (by clear J38_2; simp_all)
      · skip
        refine x_iconst (v := 1) ⟨by decide, by decide⟩ (dtk dt_X12_isBent 18 (33, .iconst 1, 1) rfl) ?_
        refine x_goto (tgt := 38) (dtk dt_X12_isBent 19 (34, .goto 4, 3) rfl) (by decide) ?_
        refine MW.sub [0, 1, 2, 3, 4, 5] rfl ?_
        exact J38_2 true (by clear J38_2; simp_all)
set_option maxRecDepth 100000 in
set_option maxHeartbeats 4000000 in
theorem c_X12_bent {G : GG} {n : Nat} {K : KK} {M : MM} {o : Int} (hm : MO K M) : MC G mi_X12_bent 5 0 0 [(1, 36), (0, o)] n K M (PQ (some (0, if isOr M o then bentM (M 38 o) (dM M o) else -1)) n K (M)) := by
  refine MC.intro (lc := [(0, (1, 36)), (1, (0, o))]) (by decide) rfl (by simp [Nat.ble]) (Nat.le_of_ble_eq_true rfl) rfl (fun hMR => ?_)
  refine x_aload_n (dtk dt_X12_bent 0 (0, .aload_n 0, 1) rfl) rfl ?_
  refine x_iload_n (dtk dt_X12_bent 1 (1, .iload_n 1, 1) rfl) rfl ?_
  refine kc_X12_78 rfl (dtk dt_X12_bent 2 (2, .invokevirtual 78, 3) rfl) (c_X12_isOrder (G := G)  hm) rfl rfl (wk_36 hm.1) (fitR (by decide) (by decide)) (Nat.le_of_ble_eq_true rfl) (pqK ?_)
  refine x_if_neB (tgt := 10) (dtk dt_X12_bent 3 (5, .ifCond .ne 5, 3) rfl) (by decide) (fun c5 => ?_) (fun c5 => ?_)
  · skip
    have ho := isOr_of hm c5
    have hA : AT K M o (M 38 o) (dM M o) := ⟨hm, ho, rfl, rfl⟩
    have hsz := hA.ok.1
    have hpw := pow_b hsz
    refine x_aload_n (dtk dt_X12_bent 6 (10, .aload_n 0, 1) rfl) rfl ?_
    refine fg_X12_13 rfl (dtk dt_X12_bent 7 (11, .getfield 13, 3) rfl) (wk_36 hA.wf) (wm_36_2 hA.wf) ?_
    refine x_iload_n (dtk dt_X12_bent 8 (14, .iload_n 1, 1) rfl) rfl ?_
    refine x_iald (dtk dt_X12_bent 9 (15, .iaload, 1) rfl) (wk_38 hA.wf) ⟨by omega, by omega⟩ ?_
    rw [hA.sz]
    refine x_istore_n (dtk dt_X12_bent 10 (16, .istore_n 2, 1) rfl) (by decide) ?_
    refine x_iconst (v := 0) ⟨by decide, by decide⟩ (dtk dt_X12_bent 11 (17, .iconst 0, 1) rfl) ?_
    refine x_istore_n (dtk dt_X12_bent 12 (18, .istore_n 3, 1) rfl) (by decide) ?_
    have L19 : ∀ (fu : Nat) (v3 : Int), (0 ≤ v3 ∧ v3 ≤ M 38 o * M 38 o * M 38 o * M 38 o) → (rs (M 38 o * M 38 o * M 38 o * M 38 o) (fun k => bentV (dM M o) (k / (M 38 o * M 38 o * M 38 o)) (k / (M 38 o * M 38 o) % M 38 o) (k / M 38 o % M 38 o) (k % M 38 o)) v3 = bentM (M 38 o) (dM M o)) → (M 38 o * M 38 o * M 38 o * M 38 o - v3).toNat = fu → MW G mi_X12_bent (rmd 5 0 0) (MZ G (PQ (some (0, if isOr M o then bentM (M 38 o) (dM M o) else -1)) n K (M)) 0 0) (0, 0) 19 [(0, (1, 36)), (1, (0, o)), (2, (0, M 38 o)), (3, (0, v3))] [] n K (M) := by
      intro fu
      induction fu using Nat.strongRecOn with
      | ind fu ih19 =>
        intro v3 h1 h2 hk19
        refine x_iload_n (dtk dt_X12_bent 13 (19, .iload_n 3, 1) rfl) rfl ?_
        refine x_iload_n (dtk dt_X12_bent 14 (20, .iload_n 2, 1) rfl) rfl ?_
        refine x_iload_n (dtk dt_X12_bent 15 (21, .iload_n 2, 1) rfl) rfl ?_
        refine y_imul (dtk dt_X12_bent 16 (22, .imul, 1) rfl) ⟨by omega, by omega⟩ ?_
        refine x_iload_n (dtk dt_X12_bent 17 (23, .iload_n 2, 1) rfl) rfl ?_
        refine y_imul (dtk dt_X12_bent 18 (24, .imul, 1) rfl) ⟨by omega, by omega⟩ ?_
        refine x_iload_n (dtk dt_X12_bent 19 (25, .iload_n 2, 1) rfl) rfl ?_
        refine y_imul (dtk dt_X12_bent 20 (26, .imul, 1) rfl) ⟨by omega, by omega⟩ ?_
        refine x_icmp_ge (tgt := 104) (dtk dt_X12_bent 21 (27, .if_icmp .ge 77, 3) rfl) (by decide) (fun c27 => ?_) (fun c27 => ?_)
        · skip
          refine x_iconst (v := -1) ⟨by decide, by decide⟩ (dtk dt_X12_bent 72 (104, .iconst (-1), 1) rfl) ?_
          exact r_i (dtk dt_X12_bent 73 (105, .ireturn, 1) rfl) rfl (by rw [c5, if_pos rfl]; rw [rs_e (by omega)] at h2; exact h2) rfl
        · skip
          have hm1 : 1 ≤ M 38 o ∧ M 38 o ≤ 10 := by (refine ⟨?_, hsz.2⟩; by_cases hz : M 38 o = 0; (rw [hz] at c27; omega); omega)
          have hpp := pow_p hm1
          have hq := quad_b h1.1 hm1 (by omega)
          refine x_iload_n (dtk dt_X12_bent 22 (30, .iload_n 3, 1) rfl) rfl ?_
          refine x_iload_n (dtk dt_X12_bent 23 (31, .iload_n 2, 1) rfl) rfl ?_
          refine x_iload_n (dtk dt_X12_bent 24 (32, .iload_n 2, 1) rfl) rfl ?_
          refine y_imul (dtk dt_X12_bent 25 (33, .imul, 1) rfl) ⟨by omega, by omega⟩ ?_
          refine x_iload_n (dtk dt_X12_bent 26 (34, .iload_n 2, 1) rfl) rfl ?_
          refine y_imul (dtk dt_X12_bent 27 (35, .imul, 1) rfl) ⟨by omega, by omega⟩ ?_
          refine x_idiv (by omega) (by omega) (dtk dt_X12_bent 28 (36, .idiv, 1) rfl) ?_
          rw [Int.tdiv_eq_ediv_of_nonneg h1.1]
          refine x_istore (dtk dt_X12_bent 29 (37, .istore 4, 2) rfl) (by decide) ?_
          refine x_iload_n (dtk dt_X12_bent 30 (39, .iload_n 3, 1) rfl) rfl ?_
          refine x_iload_n (dtk dt_X12_bent 31 (40, .iload_n 2, 1) rfl) rfl ?_
          refine x_iload_n (dtk dt_X12_bent 32 (41, .iload_n 2, 1) rfl) rfl ?_
          refine y_imul (dtk dt_X12_bent 33 (42, .imul, 1) rfl) ⟨by omega, by omega⟩ ?_
          refine x_idiv (by omega) (by omega) (dtk dt_X12_bent 34 (43, .idiv, 1) rfl) ?_
          rw [Int.tdiv_eq_ediv_of_nonneg h1.1]
          refine x_iload_n (dtk dt_X12_bent 35 (44, .iload_n 2, 1) rfl) rfl ?_
          refine x_irem (by omega) (dtk dt_X12_bent 36 (45, .irem, 1) rfl) ?_
          rw [Int.tmod_eq_emod_of_nonneg hq.2.2.2.2.1]
          refine x_istore (dtk dt_X12_bent 37 (46, .istore 5, 2) rfl) (by decide) ?_
          refine x_iload_n (dtk dt_X12_bent 38 (48, .iload_n 3, 1) rfl) rfl ?_
          refine x_iload_n (dtk dt_X12_bent 39 (49, .iload_n 2, 1) rfl) rfl ?_
          refine x_idiv (by omega) (by omega) (dtk dt_X12_bent 40 (50, .idiv, 1) rfl) ?_
          rw [Int.tdiv_eq_ediv_of_nonneg h1.1]
          refine x_iload_n (dtk dt_X12_bent 41 (51, .iload_n 2, 1) rfl) rfl ?_
          refine x_irem (by omega) (dtk dt_X12_bent 42 (52, .irem, 1) rfl) ?_
          rw [Int.tmod_eq_emod_of_nonneg hq.2.2.2.2.2]
          refine x_istore (dtk dt_X12_bent 43 (53, .istore 6, 2) rfl) (by decide) ?_
          refine x_iload_n (dtk dt_X12_bent 44 (55, .iload_n 3, 1) rfl) rfl ?_
          refine x_iload_n (dtk dt_X12_bent 45 (56, .iload_n 2, 1) rfl) rfl ?_
          refine x_irem (by omega) (dtk dt_X12_bent 46 (57, .irem, 1) rfl) ?_
          rw [Int.tmod_eq_emod_of_nonneg h1.1]
          refine x_istore (dtk dt_X12_bent 47 (58, .istore 7, 2) rfl) (by decide) ?_
          refine x_aload_n (dtk dt_X12_bent 48 (60, .aload_n 0, 1) rfl) rfl ?_
          refine x_iload_n (dtk dt_X12_bent 49 (61, .iload_n 1, 1) rfl) rfl ?_
          refine x_iload (dtk dt_X12_bent 50 (62, .iload 4, 2) rfl) rfl ?_
          refine x_iload (dtk dt_X12_bent 51 (64, .iload 5, 2) rfl) rfl ?_
          refine x_iload (dtk dt_X12_bent 52 (66, .iload 6, 2) rfl) rfl ?_
          refine x_iload (dtk dt_X12_bent 53 (68, .iload 7, 2) rfl) rfl ?_
          refine kc_X12_215 rfl (dtk dt_X12_bent 54 (70, .invokevirtual 215, 3) rfl) (c_X12_isBent (G := G)  hA (by omega) (by omega) (by omega) (by omega)) rfl rfl (wk_36 hA.wf) (fitR (by decide) (by decide)) (Nat.le_of_ble_eq_true rfl) (pqK ?_)
          refine x_if_eqB (tgt := 98) (dtk dt_X12_bent 55 (73, .ifCond .eq 25, 3) rfl) (by decide) (fun c73 => ?_) (fun c73 => ?_)
          · skip
            refine y_iinc (dtk dt_X12_bent 70 (98, .iinc 3 1, 3) rfl) rfl (by decide) ⟨by omega, by omega⟩ ?_
            refine x_goto (tgt := 19) (dtk dt_X12_bent 71 (101, .goto (-82), 3) rfl) (by decide) ?_
            refine MW.sub [5, 6, 7, 0] rfl ?_
            exact ih19 _ (by omega) _ (by omega) (by rw [rs_s (by omega)] at h2; simp only [bentV, c73] at h2; rw [if_neg (by decide), oe_m] at h2; exact h2) rfl
          · skip
            refine x_sipush (v := 1000) ⟨by decide, by decide⟩ (dtk dt_X12_bent 56 (76, .sipush 1000, 3) rfl) ?_
            refine x_iload (dtk dt_X12_bent 57 (79, .iload 4, 2) rfl) rfl ?_
            refine y_imul (dtk dt_X12_bent 58 (81, .imul, 1) rfl) ⟨by omega, by omega⟩ ?_
            refine x_bipush (v := 100) ⟨by decide, by decide⟩ (dtk dt_X12_bent 59 (82, .bipush 100, 2) rfl) ?_
            refine x_iload (dtk dt_X12_bent 60 (84, .iload 5, 2) rfl) rfl ?_
            refine y_imul (dtk dt_X12_bent 61 (86, .imul, 1) rfl) ⟨by omega, by omega⟩ ?_
            refine y_iadd (dtk dt_X12_bent 62 (87, .iadd, 1) rfl) ⟨by omega, by omega⟩ ?_
            refine x_bipush (v := 10) ⟨by decide, by decide⟩ (dtk dt_X12_bent 63 (88, .bipush 10, 2) rfl) ?_
            refine x_iload (dtk dt_X12_bent 64 (90, .iload 6, 2) rfl) rfl ?_
            refine y_imul (dtk dt_X12_bent 65 (92, .imul, 1) rfl) ⟨by omega, by omega⟩ ?_
            refine y_iadd (dtk dt_X12_bent 66 (93, .iadd, 1) rfl) ⟨by omega, by omega⟩ ?_
            refine x_iload (dtk dt_X12_bent 67 (94, .iload 7, 2) rfl) rfl ?_
            refine y_iadd (dtk dt_X12_bent 68 (96, .iadd, 1) rfl) ⟨by omega, by omega⟩ ?_
            exact r_i (dtk dt_X12_bent 69 (97, .ireturn, 1) rfl) rfl (by rw [c5, if_pos rfl]; rw [rs_s (by omega)] at h2; simp only [bentV, c73, if_true] at h2; rw [oe_n (x := 1000 * (v3 / (M 38 o * M 38 o * M 38 o)) + 100 * (v3 / (M 38 o * M 38 o) % M 38 o) + 10 * (v3 / M 38 o % M 38 o) + v3 % M 38 o) (by omega)] at h2; exact h2) rfl
    refine MW.sub [2, 3, 1, 0] rfl ?_
    exact L19 _ _ (by omega) rfl rfl
  · skip
    refine x_iconst (v := -1) ⟨by decide, by decide⟩ (dtk dt_X12_bent 4 (8, .iconst (-1), 1) rfl) ?_
    exact r_i (dtk dt_X12_bent 5 (9, .ireturn, 1) rfl) rfl (by rw [c5]; rfl) rfl
set_option maxRecDepth 100000 in
set_option maxHeartbeats 4000000 in
theorem c_X12_levelOf {G : GG} {n : Nat} {K : KK} {M : MM} {o c : Int} {m : Int} {d : Int → Int} (hA : AT K M o m d) (hc : 0 ≤ c ∧ c < 10) : MC G mi_X12_levelOf 3 0 0 [(1, 36), (0, o), (0, c)] n K M (PQ (some (0, lev m d c)) n K (M)) := by
  refine MC.intro (lc := [(0, (1, 36)), (1, (0, o)), (2, (0, c))]) (by decide) rfl (by simp [Nat.ble]) (Nat.le_of_ble_eq_true rfl) rfl (fun hMR => ?_)
  have ho := hA.2.1
  have hsz := hA.ok.1
  have hcb := cnt_b (d c)
  refine x_iconst (v := 0) ⟨by decide, by decide⟩ (dtk dt_X12_levelOf 0 (0, .iconst 0, 1) rfl) ?_
  refine x_istore_n (dtk dt_X12_levelOf 1 (1, .istore_n 3, 1) rfl) (by decide) ?_
  refine x_iconst (v := 0) ⟨by decide, by decide⟩ (dtk dt_X12_levelOf 2 (2, .iconst 0, 1) rfl) ?_
  refine x_istore (dtk dt_X12_levelOf 3 (3, .istore 4, 2) rfl) (by decide) ?_
  have L5 : ∀ (fu : Nat) (v3 : Int) (v4 : Int), (0 ≤ v4 ∧ v4 ≤ m) → (v3 = sumZ v4 (fun e => B (rel d c e))) → (m - v4).toNat = fu → MW G mi_X12_levelOf (rmd 3 0 0) (MZ G (PQ (some (0, lev m d c)) n K (M)) 0 0) (0, 0) 5 [(0, (1, 36)), (1, (0, o)), (2, (0, c)), (3, (0, v3)), (4, (0, v4))] [] n K (M) := by
    intro fu
    induction fu using Nat.strongRecOn with
    | ind fu ih5 =>
      intro v3 v4 h1 h2 hk5
      have hb := sumZ_b01 h1.1 (rel d c)
      rw [← h2] at hb
      refine x_iload (dtk dt_X12_levelOf 4 (5, .iload 4, 2) rfl) rfl ?_
      refine x_aload_n (dtk dt_X12_levelOf 5 (7, .aload_n 0, 1) rfl) rfl ?_
      refine fg_X12_13 rfl (dtk dt_X12_levelOf 6 (8, .getfield 13, 3) rfl) (wk_36 hA.wf) (wm_36_2 hA.wf) ?_
      refine x_iload_n (dtk dt_X12_levelOf 7 (11, .iload_n 1, 1) rfl) rfl ?_
      refine x_iald (dtk dt_X12_levelOf 8 (12, .iaload, 1) rfl) (wk_38 hA.wf) ⟨by omega, by omega⟩ ?_
      rw [hA.sz]
      refine x_icmp_ge (tgt := 41) (dtk dt_X12_levelOf 9 (13, .if_icmp .ge 28, 3) rfl) (by decide) (fun c13 => ?_) (fun c13 => ?_)
      · skip
        refine x_bipush (v := 10) ⟨by decide, by decide⟩ (dtk dt_X12_levelOf 24 (41, .bipush 10, 2) rfl) ?_
        refine x_aload_n (dtk dt_X12_levelOf 25 (43, .aload_n 0, 1) rfl) rfl ?_
        refine fg_X12_16 rfl (dtk dt_X12_levelOf 26 (44, .getfield 16, 3) rfl) (wk_36 hA.wf) (wm_36_3 hA.wf) ?_
        refine x_bipush (v := 10) ⟨by decide, by decide⟩ (dtk dt_X12_levelOf 27 (47, .bipush 10, 2) rfl) ?_
        refine x_iload_n (dtk dt_X12_levelOf 28 (49, .iload_n 1, 1) rfl) rfl ?_
        refine y_imul (dtk dt_X12_levelOf 29 (50, .imul, 1) rfl) ⟨by omega, by omega⟩ ?_
        refine x_iload_n (dtk dt_X12_levelOf 30 (51, .iload_n 2, 1) rfl) rfl ?_
        refine y_iadd (dtk dt_X12_levelOf 31 (52, .iadd, 1) rfl) ⟨by omega, by omega⟩ ?_
        refine x_iald (dtk dt_X12_levelOf 32 (53, .iaload, 1) rfl) (wk_39 hA.wf) ⟨by omega, by omega⟩ ?_
        rw [hA.at]
        refine kc_X12_133 rfl (dtk dt_X12_levelOf 33 (54, .invokestatic 133, 3) rfl) (c_X12_bits (G := G)  (hA.ok.nn hc)) rfl rfl (fitR (by decide) (by decide)) (Nat.le_of_ble_eq_true rfl) (pqK ?_)
        change MW G _ _ _ _ _ _ ((0, cnt (d c)) :: _) _ _ _
        refine y_imul (dtk dt_X12_levelOf 34 (57, .imul, 1) rfl) ⟨by omega, by omega⟩ ?_
        refine x_iload_n (dtk dt_X12_levelOf 35 (58, .iload_n 3, 1) rfl) rfl ?_
        refine y_iadd (dtk dt_X12_levelOf 36 (59, .iadd, 1) rfl) ⟨by omega, by omega⟩ ?_
        exact r_i (dtk dt_X12_levelOf 37 (60, .ireturn, 1) rfl) rfl (by rw [h2, show v4 = m by omega]; rfl) rfl
      · skip
        refine x_iload_n (dtk dt_X12_levelOf 10 (16, .iload_n 3, 1) rfl) rfl ?_
        refine x_aload_n (dtk dt_X12_levelOf 11 (17, .aload_n 0, 1) rfl) rfl ?_
        refine x_iload_n (dtk dt_X12_levelOf 12 (18, .iload_n 1, 1) rfl) rfl ?_
        refine x_iload_n (dtk dt_X12_levelOf 13 (19, .iload_n 2, 1) rfl) rfl ?_
        refine x_iload (dtk dt_X12_levelOf 14 (20, .iload 4, 2) rfl) rfl ?_
        refine kc_X12_86 rfl (dtk dt_X12_levelOf 15 (22, .invokevirtual 86, 3) rfl) (c_X12_isBelow (G := G)  hA (by omega) (by omega)) rfl rfl (wk_36 hA.wf) (fitR (by decide) (by decide)) (Nat.le_of_ble_eq_true rfl) (pqK ?_)
        refine x_if_eqB (tgt := 32) (dtk dt_X12_levelOf 16 (25, .ifCond .eq 7, 3) rfl) (by decide) (fun c25 => ?_) (fun c25 => ?_)
        · skip
          refine x_iconst (v := 0) ⟨by decide, by decide⟩ (dtk dt_X12_levelOf 19 (32, .iconst 0, 1) rfl) ?_
          refine y_iadd (dtk dt_X12_levelOf 20 (33, .iadd, 1) rfl) ⟨by omega, by omega⟩ ?_
          refine x_istore_n (dtk dt_X12_levelOf 21 (34, .istore_n 3, 1) rfl) (by decide) ?_
          refine y_iinc (dtk dt_X12_levelOf 22 (35, .iinc 4 1, 3) rfl) rfl (by decide) ⟨by omega, by omega⟩ ?_
          refine x_goto (tgt := 5) (dtk dt_X12_levelOf 23 (38, .goto (-33), 3) rfl) (by decide) ?_
          refine MW.sub [2, 3, 4, 1, 0] rfl ?_
          exact ih5 _ (by omega) _ _ (by omega) (by clear ih5; rw [sumZ_s (by omega), ← h2]; simp_all [B]) rfl
        · skip
          refine x_iconst (v := 1) ⟨by decide, by decide⟩ (dtk dt_X12_levelOf 17 (28, .iconst 1, 1) rfl) ?_
          refine x_goto (tgt := 33) (dtk dt_X12_levelOf 18 (29, .goto 4, 3) rfl) (by decide) ?_
          refine y_iadd (dtk dt_X12_levelOf 20 (33, .iadd, 1) rfl) ⟨by omega, by omega⟩ ?_
          refine x_istore_n (dtk dt_X12_levelOf 21 (34, .istore_n 3, 1) rfl) (by decide) ?_
          refine y_iinc (dtk dt_X12_levelOf 22 (35, .iinc 4 1, 3) rfl) rfl (by decide) ⟨by omega, by omega⟩ ?_
          refine x_goto (tgt := 5) (dtk dt_X12_levelOf 23 (38, .goto (-33), 3) rfl) (by decide) ?_
          refine MW.sub [2, 3, 4, 1, 0] rfl ?_
          exact ih5 _ (by omega) _ _ (by omega) (by clear ih5; rw [sumZ_s (by omega), ← h2]; simp_all [B]) rfl
  refine MW.sub [2, 3, 4, 1, 0] rfl ?_
  exact L5 _ _ _ (by omega) rfl rfl
set_option maxRecDepth 100000 in
set_option maxHeartbeats 4000000 in
theorem c_X12_ofLevel {G : GG} {n : Nat} {K : KK} {M : MM} {o l : Int} {m : Int} {d : Int → Int} (hA : AT K M o m d) : MC G mi_X12_ofLevel 4 0 0 [(1, 36), (0, o), (0, l)] n K M (PQ (some (0, ofLev m d l)) n K (M)) := by
  refine MC.intro (lc := [(0, (1, 36)), (1, (0, o)), (2, (0, l))]) (by decide) rfl (by simp [Nat.ble]) (Nat.le_of_ble_eq_true rfl) rfl (fun hMR => ?_)
  have ho := hA.2.1
  have hsz := hA.ok.1
  refine x_iconst (v := 0) ⟨by decide, by decide⟩ (dtk dt_X12_ofLevel 0 (0, .iconst 0, 1) rfl) ?_
  refine x_istore_n (dtk dt_X12_ofLevel 1 (1, .istore_n 3, 1) rfl) (by decide) ?_
  refine x_iconst (v := 0) ⟨by decide, by decide⟩ (dtk dt_X12_ofLevel 2 (2, .iconst 0, 1) rfl) ?_
  refine x_istore (dtk dt_X12_ofLevel 3 (3, .istore 4, 2) rfl) (by decide) ?_
  have L5 : ∀ (fu : Nat) (v3 : Int) (v4 : Int), (0 ≤ v4 ∧ v4 ≤ m) → (v3 = sumZ v4 (fun c => B (decide (lev m d c = l)))) → (m - v4).toNat = fu → MW G mi_X12_ofLevel (rmd 4 0 0) (MZ G (PQ (some (0, ofLev m d l)) n K (M)) 0 0) (0, 0) 5 [(0, (1, 36)), (1, (0, o)), (2, (0, l)), (3, (0, v3)), (4, (0, v4))] [] n K (M) := by
    intro fu
    induction fu using Nat.strongRecOn with
    | ind fu ih5 =>
      intro v3 v4 h1 h2 hk5
      have hb := sumZ_b01 h1.1 (fun c => decide (lev m d c = l))
      rw [← h2] at hb
      refine x_iload (dtk dt_X12_ofLevel 4 (5, .iload 4, 2) rfl) rfl ?_
      refine x_aload_n (dtk dt_X12_ofLevel 5 (7, .aload_n 0, 1) rfl) rfl ?_
      refine fg_X12_13 rfl (dtk dt_X12_ofLevel 6 (8, .getfield 13, 3) rfl) (wk_36 hA.wf) (wm_36_2 hA.wf) ?_
      refine x_iload_n (dtk dt_X12_ofLevel 7 (11, .iload_n 1, 1) rfl) rfl ?_
      refine x_iald (dtk dt_X12_ofLevel 8 (12, .iaload, 1) rfl) (wk_38 hA.wf) ⟨by omega, by omega⟩ ?_
      rw [hA.sz]
      refine x_icmp_ge (tgt := 41) (dtk dt_X12_ofLevel 9 (13, .if_icmp .ge 28, 3) rfl) (by decide) (fun c13 => ?_) (fun c13 => ?_)
      · skip
        refine x_iload_n (dtk dt_X12_ofLevel 24 (41, .iload_n 3, 1) rfl) rfl ?_
        exact r_i (dtk dt_X12_ofLevel 25 (42, .ireturn, 1) rfl) rfl (by rw [h2, show v4 = m by omega]; rfl) rfl
      · skip
        refine x_iload_n (dtk dt_X12_ofLevel 10 (16, .iload_n 3, 1) rfl) rfl ?_
        refine x_aload_n (dtk dt_X12_ofLevel 11 (17, .aload_n 0, 1) rfl) rfl ?_
        refine x_iload_n (dtk dt_X12_ofLevel 12 (18, .iload_n 1, 1) rfl) rfl ?_
        refine x_iload (dtk dt_X12_ofLevel 13 (19, .iload 4, 2) rfl) rfl ?_
        refine kc_X12_219 rfl (dtk dt_X12_ofLevel 14 (21, .invokevirtual 219, 3) rfl) (c_X12_levelOf (G := G)  hA (by omega)) rfl rfl (wk_36 hA.wf) (fitR (by decide) (by decide)) (Nat.le_of_ble_eq_true rfl) (pqK ?_)
        refine x_iload_n (dtk dt_X12_ofLevel 15 (24, .iload_n 2, 1) rfl) rfl ?_
        refine x_icmp_ne (tgt := 32) (dtk dt_X12_ofLevel 16 (25, .if_icmp .ne 7, 3) rfl) (by decide) (fun c25 => ?_) (fun c25 => ?_)
        · skip
          refine x_iconst (v := 0) ⟨by decide, by decide⟩ (dtk dt_X12_ofLevel 19 (32, .iconst 0, 1) rfl) ?_
          refine y_iadd (dtk dt_X12_ofLevel 20 (33, .iadd, 1) rfl) ⟨by omega, by omega⟩ ?_
          refine x_istore_n (dtk dt_X12_ofLevel 21 (34, .istore_n 3, 1) rfl) (by decide) ?_
          refine y_iinc (dtk dt_X12_ofLevel 22 (35, .iinc 4 1, 3) rfl) rfl (by decide) ⟨by omega, by omega⟩ ?_
          refine x_goto (tgt := 5) (dtk dt_X12_ofLevel 23 (38, .goto (-33), 3) rfl) (by decide) ?_
          refine MW.sub [2, 3, 4, 1, 0] rfl ?_
          exact ih5 _ (by omega) _ _ (by omega) (by clear ih5; rw [sumZ_s (by omega), ← h2]; simp_all [B]) rfl
        · skip
          refine x_iconst (v := 1) ⟨by decide, by decide⟩ (dtk dt_X12_ofLevel 17 (28, .iconst 1, 1) rfl) ?_
          refine x_goto (tgt := 33) (dtk dt_X12_ofLevel 18 (29, .goto 4, 3) rfl) (by decide) ?_
          refine y_iadd (dtk dt_X12_ofLevel 20 (33, .iadd, 1) rfl) ⟨by omega, by omega⟩ ?_
          refine x_istore_n (dtk dt_X12_ofLevel 21 (34, .istore_n 3, 1) rfl) (by decide) ?_
          refine y_iinc (dtk dt_X12_ofLevel 22 (35, .iinc 4 1, 3) rfl) rfl (by decide) ⟨by omega, by omega⟩ ?_
          refine x_goto (tgt := 5) (dtk dt_X12_ofLevel 23 (38, .goto (-33), 3) rfl) (by decide) ?_
          refine MW.sub [2, 3, 4, 1, 0] rfl ?_
          exact ih5 _ (by omega) _ _ (by omega) (by clear ih5; rw [sumZ_s (by omega), ← h2]; simp_all [B]) rfl
  refine MW.sub [2, 3, 4, 1, 0] rfl ?_
  exact L5 _ _ _ (by omega) rfl rfl
set_option maxRecDepth 100000 in
set_option maxHeartbeats 4000000 in
theorem c_X12_pairsOf {G : GG} {n : Nat} {K : KK} {M : MM} {o : Int} {m : Int} {d : Int → Int} (hA : AT K M o m d) : MC G mi_X12_pairsOf 2 0 0 [(1, 36), (0, o)] n K M (PQ (some (0, prs m d)) n K (M)) := by
  refine MC.intro (lc := [(0, (1, 36)), (1, (0, o))]) (by decide) rfl (by simp [Nat.ble]) (Nat.le_of_ble_eq_true rfl) rfl (fun hMR => ?_)
  have ho := hA.2.1
  have hsz := hA.ok.1
  refine x_iconst (v := 0) ⟨by decide, by decide⟩ (dtk dt_X12_pairsOf 0 (0, .iconst 0, 1) rfl) ?_
  refine x_istore_n (dtk dt_X12_pairsOf 1 (1, .istore_n 2, 1) rfl) (by decide) ?_
  refine x_iconst (v := 0) ⟨by decide, by decide⟩ (dtk dt_X12_pairsOf 2 (2, .iconst 0, 1) rfl) ?_
  refine x_istore_n (dtk dt_X12_pairsOf 3 (3, .istore_n 3, 1) rfl) (by decide) ?_
  have L4 : ∀ (fu : Nat) (v2 : Int) (v3 : Int), (0 ≤ v3 ∧ v3 ≤ m) → (v2 = sumZ v3 (fun a => cnt (d a))) → (m - v3).toNat = fu → MW G mi_X12_pairsOf (rmd 2 0 0) (MZ G (PQ (some (0, prs m d)) n K (M)) 0 0) (0, 0) 4 [(0, (1, 36)), (1, (0, o)), (2, (0, v2)), (3, (0, v3))] [] n K (M) := by
    intro fu
    induction fu using Nat.strongRecOn with
    | ind fu ih4 =>
      intro v2 v3 h1 h2 hk4
      have hb := sumZ_b (f := fun a => cnt (d a)) (L := 10) h1.1 (fun c _ _ => cnt_b (d c))
      rw [← h2] at hb
      have hcb := cnt_b (d v3)
      refine x_iload_n (dtk dt_X12_pairsOf 4 (4, .iload_n 3, 1) rfl) rfl ?_
      refine x_aload_n (dtk dt_X12_pairsOf 5 (5, .aload_n 0, 1) rfl) rfl ?_
      refine fg_X12_13 rfl (dtk dt_X12_pairsOf 6 (6, .getfield 13, 3) rfl) (wk_36 hA.wf) (wm_36_2 hA.wf) ?_
      refine x_iload_n (dtk dt_X12_pairsOf 7 (9, .iload_n 1, 1) rfl) rfl ?_
      refine x_iald (dtk dt_X12_pairsOf 8 (10, .iaload, 1) rfl) (wk_38 hA.wf) ⟨by omega, by omega⟩ ?_
      rw [hA.sz]
      refine x_icmp_ge (tgt := 37) (dtk dt_X12_pairsOf 9 (11, .if_icmp .ge 26, 3) rfl) (by decide) (fun c11 => ?_) (fun c11 => ?_)
      · skip
        refine x_iload_n (dtk dt_X12_pairsOf 24 (37, .iload_n 2, 1) rfl) rfl ?_
        exact r_i (dtk dt_X12_pairsOf 25 (38, .ireturn, 1) rfl) rfl (by rw [h2, show v3 = m by omega]; rfl) rfl
      · skip
        refine x_iload_n (dtk dt_X12_pairsOf 10 (14, .iload_n 2, 1) rfl) rfl ?_
        refine x_aload_n (dtk dt_X12_pairsOf 11 (15, .aload_n 0, 1) rfl) rfl ?_
        refine fg_X12_16 rfl (dtk dt_X12_pairsOf 12 (16, .getfield 16, 3) rfl) (wk_36 hA.wf) (wm_36_3 hA.wf) ?_
        refine x_bipush (v := 10) ⟨by decide, by decide⟩ (dtk dt_X12_pairsOf 13 (19, .bipush 10, 2) rfl) ?_
        refine x_iload_n (dtk dt_X12_pairsOf 14 (21, .iload_n 1, 1) rfl) rfl ?_
        refine y_imul (dtk dt_X12_pairsOf 15 (22, .imul, 1) rfl) ⟨by omega, by omega⟩ ?_
        refine x_iload_n (dtk dt_X12_pairsOf 16 (23, .iload_n 3, 1) rfl) rfl ?_
        refine y_iadd (dtk dt_X12_pairsOf 17 (24, .iadd, 1) rfl) ⟨by omega, by omega⟩ ?_
        refine x_iald (dtk dt_X12_pairsOf 18 (25, .iaload, 1) rfl) (wk_39 hA.wf) ⟨by omega, by omega⟩ ?_
        rw [hA.at]
        refine kc_X12_133 rfl (dtk dt_X12_pairsOf 19 (26, .invokestatic 133, 3) rfl) (c_X12_bits (G := G)  (hA.ok.nn (by omega))) rfl rfl (fitR (by decide) (by decide)) (Nat.le_of_ble_eq_true rfl) (pqK ?_)
        change MW G _ _ _ _ _ _ ((0, cnt (d v3)) :: _) _ _ _
        refine y_iadd (dtk dt_X12_pairsOf 20 (29, .iadd, 1) rfl) ⟨by omega, by omega⟩ ?_
        refine x_istore_n (dtk dt_X12_pairsOf 21 (30, .istore_n 2, 1) rfl) (by decide) ?_
        refine y_iinc (dtk dt_X12_pairsOf 22 (31, .iinc 3 1, 3) rfl) rfl (by decide) ⟨by omega, by omega⟩ ?_
        refine x_goto (tgt := 4) (dtk dt_X12_pairsOf 23 (34, .goto (-30), 3) rfl) (by decide) ?_
        refine MW.sub [2, 3, 1, 0] rfl ?_
        exact ih4 _ (by omega) _ _ (by omega) (by rw [sumZ_s (by omega), ← h2]) rfl
  refine MW.sub [2, 3, 1, 0] rfl ?_
  exact L4 _ _ _ (by omega) rfl rfl
set_option maxRecDepth 100000 in
set_option maxHeartbeats 4000000 in
theorem c_X12_nextsOf {G : GG} {n : Nat} {K : KK} {M : MM} {o : Int} {m : Int} {d : Int → Int} (hA : AT K M o m d) : MC G mi_X12_nextsOf 4 0 0 [(1, 36), (0, o)] n K M (PQ (some (0, nxs m d)) n K (M)) := by
  refine MC.intro (lc := [(0, (1, 36)), (1, (0, o))]) (by decide) rfl (by simp [Nat.ble]) (Nat.le_of_ble_eq_true rfl) rfl (fun hMR => ?_)
  have ho := hA.2.1
  have hsz := hA.ok.1
  refine x_iconst (v := 0) ⟨by decide, by decide⟩ (dtk dt_X12_nextsOf 0 (0, .iconst 0, 1) rfl) ?_
  refine x_istore_n (dtk dt_X12_nextsOf 1 (1, .istore_n 2, 1) rfl) (by decide) ?_
  refine x_iconst (v := 0) ⟨by decide, by decide⟩ (dtk dt_X12_nextsOf 2 (2, .iconst 0, 1) rfl) ?_
  refine x_istore_n (dtk dt_X12_nextsOf 3 (3, .istore_n 3, 1) rfl) (by decide) ?_
  have L4 : ∀ (fu : Nat) (v2 : Int) (v3 : Int), (0 ≤ v3 ∧ v3 ≤ m) → (v2 = sumZ v3 (fun a => sumZ m (fun b => B (nxt m d a b)))) → (m - v3).toNat = fu → MW G mi_X12_nextsOf (rmd 4 0 0) (MZ G (PQ (some (0, nxs m d)) n K (M)) 0 0) (0, 0) 4 [(0, (1, 36)), (1, (0, o)), (2, (0, v2)), (3, (0, v3))] [] n K (M) := by
    intro fu
    induction fu using Nat.strongRecOn with
    | ind fu ih4 =>
      intro v2 v3 h1 h2 hk4
      have hb := sumZ_b (f := fun a => sumZ m (fun b => B (nxt m d a b))) (L := 10) h1.1 (fun c _ _ => by have := sumZ_b01 hsz.1 (nxt m d c); omega)
      rw [← h2] at hb
      refine x_iload_n (dtk dt_X12_nextsOf 4 (4, .iload_n 3, 1) rfl) rfl ?_
      refine x_aload_n (dtk dt_X12_nextsOf 5 (5, .aload_n 0, 1) rfl) rfl ?_
      refine fg_X12_13 rfl (dtk dt_X12_nextsOf 6 (6, .getfield 13, 3) rfl) (wk_36 hA.wf) (wm_36_2 hA.wf) ?_
      refine x_iload_n (dtk dt_X12_nextsOf 7 (9, .iload_n 1, 1) rfl) rfl ?_
      refine x_iald (dtk dt_X12_nextsOf 8 (10, .iaload, 1) rfl) (wk_38 hA.wf) ⟨by omega, by omega⟩ ?_
      rw [hA.sz]
      refine x_icmp_ge (tgt := 59) (dtk dt_X12_nextsOf 9 (11, .if_icmp .ge 48, 3) rfl) (by decide) (fun c11 => ?_) (fun c11 => ?_)
      · skip
        refine x_iload_n (dtk dt_X12_nextsOf 34 (59, .iload_n 2, 1) rfl) rfl ?_
        exact r_i (dtk dt_X12_nextsOf 35 (60, .ireturn, 1) rfl) rfl (by rw [h2, show v3 = m by omega]; rfl) rfl
      · skip
        refine x_iconst (v := 0) ⟨by decide, by decide⟩ (dtk dt_X12_nextsOf 10 (14, .iconst 0, 1) rfl) ?_
        refine x_istore (dtk dt_X12_nextsOf 11 (15, .istore 4, 2) rfl) (by decide) ?_
        have L17 : ∀ (fu : Nat) (w2 : Int) (v4 : Int), (0 ≤ v4 ∧ v4 ≤ m) → (w2 = v2 + sumZ v4 (fun b => B (nxt m d v3 b))) → (m - v4).toNat = fu → MW G mi_X12_nextsOf (rmd 4 0 0) (MZ G (PQ (some (0, nxs m d)) n K (M)) 0 0) (0, 0) 17 [(0, (1, 36)), (1, (0, o)), (2, (0, w2)), (3, (0, v3)), (4, (0, v4))] [] n K (M) := by
          intro fu
          induction fu using Nat.strongRecOn with
          | ind fu ih17 =>
            intro w2 v4 h3 h4 hk17
            have hb2 := sumZ_b01 h3.1 (nxt m d v3)
            refine x_iload (dtk dt_X12_nextsOf 12 (17, .iload 4, 2) rfl) rfl ?_
            refine x_aload_n (dtk dt_X12_nextsOf 13 (19, .aload_n 0, 1) rfl) rfl ?_
            refine fg_X12_13 rfl (dtk dt_X12_nextsOf 14 (20, .getfield 13, 3) rfl) (wk_36 hA.wf) (wm_36_2 hA.wf) ?_
            refine x_iload_n (dtk dt_X12_nextsOf 15 (23, .iload_n 1, 1) rfl) rfl ?_
            refine x_iald (dtk dt_X12_nextsOf 16 (24, .iaload, 1) rfl) (wk_38 hA.wf) ⟨by omega, by omega⟩ ?_
            rw [hA.sz]
            refine x_icmp_ge (tgt := 53) (dtk dt_X12_nextsOf 17 (25, .if_icmp .ge 28, 3) rfl) (by decide) (fun c25 => ?_) (fun c25 => ?_)
            · skip
              refine y_iinc (dtk dt_X12_nextsOf 32 (53, .iinc 3 1, 3) rfl) rfl (by decide) ⟨by omega, by omega⟩ ?_
              refine x_goto (tgt := 4) (dtk dt_X12_nextsOf 33 (56, .goto (-52), 3) rfl) (by decide) ?_
              refine MW.sub [1, 2, 3, 0] rfl ?_
              exact ih4 _ (by omega) _ _ (by omega) (by rw [sumZ_s (by omega), h4, h2, show v4 = m by omega]) rfl
            · skip
              refine x_iload_n (dtk dt_X12_nextsOf 18 (28, .iload_n 2, 1) rfl) rfl ?_
              refine x_aload_n (dtk dt_X12_nextsOf 19 (29, .aload_n 0, 1) rfl) rfl ?_
              refine x_iload_n (dtk dt_X12_nextsOf 20 (30, .iload_n 1, 1) rfl) rfl ?_
              refine x_iload_n (dtk dt_X12_nextsOf 21 (31, .iload_n 3, 1) rfl) rfl ?_
              refine x_iload (dtk dt_X12_nextsOf 22 (32, .iload 4, 2) rfl) rfl ?_
              refine kc_X12_104 rfl (dtk dt_X12_nextsOf 23 (34, .invokevirtual 104, 3) rfl) (c_X12_isNext (G := G)  hA (by omega) (by omega)) rfl rfl (wk_36 hA.wf) (fitR (by decide) (by decide)) (Nat.le_of_ble_eq_true rfl) (pqK ?_)
              refine x_if_eqB (tgt := 44) (dtk dt_X12_nextsOf 24 (37, .ifCond .eq 7, 3) rfl) (by decide) (fun c37 => ?_) (fun c37 => ?_)
              · skip
                refine x_iconst (v := 0) ⟨by decide, by decide⟩ (dtk dt_X12_nextsOf 27 (44, .iconst 0, 1) rfl) ?_
                refine y_iadd (dtk dt_X12_nextsOf 28 (45, .iadd, 1) rfl) ⟨by omega, by omega⟩ ?_
                refine x_istore_n (dtk dt_X12_nextsOf 29 (46, .istore_n 2, 1) rfl) (by decide) ?_
                refine y_iinc (dtk dt_X12_nextsOf 30 (47, .iinc 4 1, 3) rfl) rfl (by decide) ⟨by omega, by omega⟩ ?_
                refine x_goto (tgt := 17) (dtk dt_X12_nextsOf 31 (50, .goto (-33), 3) rfl) (by decide) ?_
                refine MW.sub [2, 3, 1, 4, 0] rfl ?_
                exact ih17 _ (by omega) _ _ (by omega) (by clear ih4 ih17; rw [sumZ_s (by omega)]; simp_all [B]; try omega) rfl
              · skip
                refine x_iconst (v := 1) ⟨by decide, by decide⟩ (dtk dt_X12_nextsOf 25 (40, .iconst 1, 1) rfl) ?_
                refine x_goto (tgt := 45) (dtk dt_X12_nextsOf 26 (41, .goto 4, 3) rfl) (by decide) ?_
                refine y_iadd (dtk dt_X12_nextsOf 28 (45, .iadd, 1) rfl) ⟨by omega, by omega⟩ ?_
                refine x_istore_n (dtk dt_X12_nextsOf 29 (46, .istore_n 2, 1) rfl) (by decide) ?_
                refine y_iinc (dtk dt_X12_nextsOf 30 (47, .iinc 4 1, 3) rfl) rfl (by decide) ⟨by omega, by omega⟩ ?_
                refine x_goto (tgt := 17) (dtk dt_X12_nextsOf 31 (50, .goto (-33), 3) rfl) (by decide) ?_
                refine MW.sub [2, 3, 1, 4, 0] rfl ?_
                exact ih17 _ (by omega) _ _ (by omega) (by clear ih4 ih17; rw [sumZ_s (by omega)]; simp_all [B]; try omega) rfl
        refine MW.sub [1, 2, 3, 4, 0] rfl ?_
        exact L17 _ _ _ (by omega) (by rw [sumZ_0]; omega) rfl
  refine MW.sub [2, 3, 1, 0] rfl ?_
  exact L4 _ _ _ (by omega) rfl rfl
set_option maxRecDepth 100000 in
set_option maxHeartbeats 4000000 in
theorem c_X12_may {G : GG} {n : Nat} {K : KK} {M : MM} {o s c a b : Int} {m : Int} {d : Int → Int} (hA : AT K M o m d) (hs : nn s) (hc : 0 ≤ c ∧ c < 10) (ha : 0 ≤ a ∧ a < 10) : MC G mi_X12_may 2 0 0 [(1, 36), (0, o), (0, s), (0, c), (0, a), (0, b)] n K M (PQ (some (0, B (may d a b s c))) n K (M)) := by
  refine MC.intro (lc := [(0, (1, 36)), (1, (0, o)), (2, (0, s)), (3, (0, c)), (4, (0, a)), (5, (0, b))]) (by decide) rfl (by simp [Nat.ble]) (Nat.le_of_ble_eq_true rfl) rfl (fun hMR => ?_)
  have ho := hA.2.1
  refine x_iload_n (dtk dt_X12_may 0 (0, .iload_n 2, 1) rfl) rfl ?_
  refine x_iload_n (dtk dt_X12_may 1 (1, .iload_n 3, 1) rfl) rfl ?_
  refine kc_X12_82 rfl (dtk dt_X12_may 2 (2, .invokestatic 82, 3) rfl) (c_X12_has (G := G)  hs (by omega)) rfl rfl (fitR (by decide) (by decide)) (Nat.le_of_ble_eq_true rfl) (pqK ?_)
  refine x_if_neB (tgt := 52) (dtk dt_X12_may 3 (5, .ifCond .ne 47, 3) rfl) (by decide) (fun c5 => ?_) (fun c5 => ?_)
  · skip
    refine x_iconst (v := 0) ⟨by decide, by decide⟩ (dtk dt_X12_may 29 (52, .iconst 0, 1) rfl) ?_
    exact r_b (b := false) (dtk dt_X12_may 30 (53, .ireturn, 1) rfl) rfl (by unfold may sub; simp_all) rfl
  · skip
    refine x_aload_n (dtk dt_X12_may 4 (8, .aload_n 0, 1) rfl) rfl ?_
    refine fg_X12_16 rfl (dtk dt_X12_may 5 (9, .getfield 16, 3) rfl) (wk_36 hA.wf) (wm_36_3 hA.wf) ?_
    refine x_bipush (v := 10) ⟨by decide, by decide⟩ (dtk dt_X12_may 6 (12, .bipush 10, 2) rfl) ?_
    refine x_iload_n (dtk dt_X12_may 7 (14, .iload_n 1, 1) rfl) rfl ?_
    refine y_imul (dtk dt_X12_may 8 (15, .imul, 1) rfl) ⟨by omega, by omega⟩ ?_
    refine x_iload_n (dtk dt_X12_may 9 (16, .iload_n 3, 1) rfl) rfl ?_
    refine y_iadd (dtk dt_X12_may 10 (17, .iadd, 1) rfl) ⟨by omega, by omega⟩ ?_
    refine x_iald (dtk dt_X12_may 11 (18, .iaload, 1) rfl) (wk_39 hA.wf) ⟨by omega, by omega⟩ ?_
    rw [hA.at]
    refine x_iload_n (dtk dt_X12_may 12 (19, .iload_n 2, 1) rfl) rfl ?_
    refine x_iconst (v := -1) ⟨by decide, by decide⟩ (dtk dt_X12_may 13 (20, .iconst (-1), 1) rfl) ?_
    refine x_ixor (dtk dt_X12_may 14 (21, .ixor, 1) rfl) ?_
    refine x_iand (dtk dt_X12_may 15 (22, .iand, 1) rfl) ?_
    refine x_if_ne (tgt := 52) (dtk dt_X12_may 16 (23, .ifCond .ne 29, 3) rfl) (by decide) (fun c23 => ?_) (fun c23 => ?_)
    · skip
      refine x_iconst (v := 0) ⟨by decide, by decide⟩ (dtk dt_X12_may 29 (52, .iconst 0, 1) rfl) ?_
      exact r_b (b := false) (dtk dt_X12_may 30 (53, .ireturn, 1) rfl) rfl (by unfold may sub; simp_all) rfl
    · skip
      refine x_iload (dtk dt_X12_may 17 (26, .iload 4, 2) rfl) rfl ?_
      refine x_iload (dtk dt_X12_may 18 (28, .iload 5, 2) rfl) rfl ?_
      refine x_icmp_eq (tgt := 48) (dtk dt_X12_may 19 (30, .if_icmp .eq 18, 3) rfl) (by decide) (fun c30 => ?_) (fun c30 => ?_)
      · skip
        refine x_iconst (v := 1) ⟨by decide, by decide⟩ (dtk dt_X12_may 27 (48, .iconst 1, 1) rfl) ?_
        refine x_goto (tgt := 53) (dtk dt_X12_may 28 (49, .goto 4, 3) rfl) (by decide) ?_
        exact r_b (b := true) (dtk dt_X12_may 30 (53, .ireturn, 1) rfl) rfl (by unfold may sub; simp_all) rfl
      · skip
        refine x_iload_n (dtk dt_X12_may 20 (33, .iload_n 3, 1) rfl) rfl ?_
        refine x_iload (dtk dt_X12_may 21 (34, .iload 5, 2) rfl) rfl ?_
        refine x_icmp_ne (tgt := 48) (dtk dt_X12_may 22 (36, .if_icmp .ne 12, 3) rfl) (by decide) (fun c36 => ?_) (fun c36 => ?_)
        · skip
          refine x_iconst (v := 1) ⟨by decide, by decide⟩ (dtk dt_X12_may 27 (48, .iconst 1, 1) rfl) ?_
          refine x_goto (tgt := 53) (dtk dt_X12_may 28 (49, .goto 4, 3) rfl) (by decide) ?_
          exact r_b (b := true) (dtk dt_X12_may 30 (53, .ireturn, 1) rfl) rfl (by unfold may sub; simp_all) rfl
        · skip
          refine x_iload_n (dtk dt_X12_may 23 (39, .iload_n 2, 1) rfl) rfl ?_
          refine x_iload (dtk dt_X12_may 24 (40, .iload 4, 2) rfl) rfl ?_
          refine kc_X12_82 rfl (dtk dt_X12_may 25 (42, .invokestatic 82, 3) rfl) (c_X12_has (G := G)  hs (by omega)) rfl rfl (fitR (by decide) (by decide)) (Nat.le_of_ble_eq_true rfl) (pqK ?_)
          refine x_if_eqB (tgt := 52) (dtk dt_X12_may 26 (45, .ifCond .eq 7, 3) rfl) (by decide) (fun c45 => ?_) (fun c45 => ?_)
          · skip
            refine x_iconst (v := 0) ⟨by decide, by decide⟩ (dtk dt_X12_may 29 (52, .iconst 0, 1) rfl) ?_
            exact r_b (b := false) (dtk dt_X12_may 30 (53, .ireturn, 1) rfl) rfl (by unfold may sub; simp_all) rfl
          · skip
            refine x_iconst (v := 1) ⟨by decide, by decide⟩ (dtk dt_X12_may 27 (48, .iconst 1, 1) rfl) ?_
            refine x_goto (tgt := 53) (dtk dt_X12_may 28 (49, .goto 4, 3) rfl) (by decide) ?_
            exact r_b (b := true) (dtk dt_X12_may 30 (53, .ireturn, 1) rfl) rfl (by unfold may sub; simp_all) rfl
set_option maxRecDepth 100000 in
set_option maxHeartbeats 4000000 in
theorem c_X12_count {G : GG} {n : Nat} {K : KK} {M : MM} {w : Int} (hw : WF K M) : MC G mi_X12_count 1 0 0 [(1, 36), (0, w)] n K M (PQ (some (0, if w = 0 then M 36 0 else if w = 1 then M 36 5 else if w = 2 then (if M 36 5 = 0 then -1 else M 36 4) else if w = 3 then M 36 14 else -1)) n K (M)) := by
  refine MC.intro (lc := [(0, (1, 36)), (1, (0, w))]) (by decide) rfl (by simp [Nat.ble]) (Nat.le_of_ble_eq_true rfl) rfl (fun hMR => ?_)
  refine x_iload_n (dtk dt_X12_count 0 (0, .iload_n 1, 1) rfl) rfl ?_
  refine x_if_ne (tgt := 11) (dtk dt_X12_count 1 (1, .ifCond .ne 10, 3) rfl) (by decide) (fun c1 => ?_) (fun c1 => ?_)
  · skip
    refine x_iload_n (dtk dt_X12_count 5 (11, .iload_n 1, 1) rfl) rfl ?_
    refine x_iconst (v := 1) ⟨by decide, by decide⟩ (dtk dt_X12_count 6 (12, .iconst 1, 1) rfl) ?_
    refine x_icmp_ne (tgt := 23) (dtk dt_X12_count 7 (13, .if_icmp .ne 10, 3) rfl) (by decide) (fun c13 => ?_) (fun c13 => ?_)
    · skip
      refine x_iload_n (dtk dt_X12_count 11 (23, .iload_n 1, 1) rfl) rfl ?_
      refine x_iconst (v := 2) ⟨by decide, by decide⟩ (dtk dt_X12_count 12 (24, .iconst 2, 1) rfl) ?_
      refine x_icmp_ne (tgt := 46) (dtk dt_X12_count 13 (25, .if_icmp .ne 21, 3) rfl) (by decide) (fun c25 => ?_) (fun c25 => ?_)
      · skip
        refine x_iload_n (dtk dt_X12_count 22 (46, .iload_n 1, 1) rfl) rfl ?_
        refine x_iconst (v := 3) ⟨by decide, by decide⟩ (dtk dt_X12_count 23 (47, .iconst 3, 1) rfl) ?_
        refine x_icmp_ne (tgt := 58) (dtk dt_X12_count 24 (48, .if_icmp .ne 10, 3) rfl) (by decide) (fun c48 => ?_) (fun c48 => ?_)
        · skip
          refine x_iconst (v := -1) ⟨by decide, by decide⟩ (dtk dt_X12_count 28 (58, .iconst (-1), 1) rfl) ?_
          exact r_i (dtk dt_X12_count 29 (59, .ireturn, 1) rfl) rfl (by simp_all) rfl
        · skip
          refine x_aload_n (dtk dt_X12_count 25 (51, .aload_n 0, 1) rfl) rfl ?_
          refine fg_X12_246 rfl (dtk dt_X12_count 26 (52, .getfield 246, 3) rfl) (wk_36 hw) rfl ?_
          refine x_goto (tgt := 59) (dtk dt_X12_count 27 (55, .goto 4, 3) rfl) (by decide) ?_
          exact r_i (dtk dt_X12_count 29 (59, .ireturn, 1) rfl) rfl (by simp_all) rfl
      · skip
        refine x_aload_n (dtk dt_X12_count 14 (28, .aload_n 0, 1) rfl) rfl ?_
        refine fg_X12_139 rfl (dtk dt_X12_count 15 (29, .getfield 139, 3) rfl) (wk_36 hw) rfl ?_
        refine x_if_ne (tgt := 39) (dtk dt_X12_count 16 (32, .ifCond .ne 7, 3) rfl) (by decide) (fun c32 => ?_) (fun c32 => ?_)
        · skip
          refine x_aload_n (dtk dt_X12_count 19 (39, .aload_n 0, 1) rfl) rfl ?_
          refine fg_X12_19 rfl (dtk dt_X12_count 20 (40, .getfield 19, 3) rfl) (wk_36 hw) rfl ?_
          refine x_goto (tgt := 59) (dtk dt_X12_count 21 (43, .goto 16, 3) rfl) (by decide) ?_
          exact r_i (dtk dt_X12_count 29 (59, .ireturn, 1) rfl) rfl (by simp_all) rfl
        · skip
          refine x_iconst (v := -1) ⟨by decide, by decide⟩ (dtk dt_X12_count 17 (35, .iconst (-1), 1) rfl) ?_
          refine x_goto (tgt := 59) (dtk dt_X12_count 18 (36, .goto 23, 3) rfl) (by decide) ?_
          exact r_i (dtk dt_X12_count 29 (59, .ireturn, 1) rfl) rfl (by simp_all) rfl
    · skip
      refine x_aload_n (dtk dt_X12_count 8 (16, .aload_n 0, 1) rfl) rfl ?_
      refine fg_X12_139 rfl (dtk dt_X12_count 9 (17, .getfield 139, 3) rfl) (wk_36 hw) rfl ?_
      refine x_goto (tgt := 59) (dtk dt_X12_count 10 (20, .goto 39, 3) rfl) (by decide) ?_
      exact r_i (dtk dt_X12_count 29 (59, .ireturn, 1) rfl) rfl (by simp_all) rfl
  · skip
    refine x_aload_n (dtk dt_X12_count 2 (4, .aload_n 0, 1) rfl) rfl ?_
    refine fg_X12_71 rfl (dtk dt_X12_count 3 (5, .getfield 71, 3) rfl) (wk_36 hw) rfl ?_
    refine x_goto (tgt := 59) (dtk dt_X12_count 4 (8, .goto 51, 3) rfl) (by decide) ?_
    exact r_i (dtk dt_X12_count 29 (59, .ireturn, 1) rfl) rfl (by simp_all) rfl
set_option maxRecDepth 100000 in
set_option maxHeartbeats 4000000 in
theorem c_X12_below {G : GG} {n : Nat} {K : KK} {M : MM} {o a b : Int} (hm : MO K M) : MC G mi_X12_below 4 0 0 [(1, 36), (0, o), (0, a), (0, b)] n K M (PQ (some (0, if isTh M o a && isTh M o b then (if nxt (M 38 o) (dM M o) a b then 2 else if rel (dM M o) a b then 1 else 0) else -1)) n K (M)) := by
  refine MC.intro (lc := [(0, (1, 36)), (1, (0, o)), (2, (0, a)), (3, (0, b))]) (by decide) rfl (by simp [Nat.ble]) (Nat.le_of_ble_eq_true rfl) rfl (fun hMR => ?_)
  refine x_aload_n (dtk dt_X12_below 0 (0, .aload_n 0, 1) rfl) rfl ?_
  refine x_iload_n (dtk dt_X12_below 1 (1, .iload_n 1, 1) rfl) rfl ?_
  refine x_iload_n (dtk dt_X12_below 2 (2, .iload_n 2, 1) rfl) rfl ?_
  refine kc_X12_110 rfl (dtk dt_X12_below 3 (3, .invokevirtual 110, 3) rfl) (c_X12_isThing (G := G)  hm) rfl rfl (wk_36 hm.1) (fitR (by decide) (by decide)) (Nat.le_of_ble_eq_true rfl) (pqK ?_)
  refine x_if_eqB (tgt := 18) (dtk dt_X12_below 4 (6, .ifCond .eq 12, 3) rfl) (by decide) (fun c6 => ?_) (fun c6 => ?_)
  · skip
    refine x_iconst (v := -1) ⟨by decide, by decide⟩ (dtk dt_X12_below 10 (18, .iconst (-1), 1) rfl) ?_
    exact r_i (dtk dt_X12_below 11 (19, .ireturn, 1) rfl) rfl (by simp_all) rfl
  · skip
    refine x_aload_n (dtk dt_X12_below 5 (9, .aload_n 0, 1) rfl) rfl ?_
    refine x_iload_n (dtk dt_X12_below 6 (10, .iload_n 1, 1) rfl) rfl ?_
    refine x_iload_n (dtk dt_X12_below 7 (11, .iload_n 3, 1) rfl) rfl ?_
    refine kc_X12_110 rfl (dtk dt_X12_below 8 (12, .invokevirtual 110, 3) rfl) (c_X12_isThing (G := G)  hm) rfl rfl (wk_36 hm.1) (fitR (by decide) (by decide)) (Nat.le_of_ble_eq_true rfl) (pqK ?_)
    refine x_if_neB (tgt := 20) (dtk dt_X12_below 9 (15, .ifCond .ne 5, 3) rfl) (by decide) (fun c15 => ?_) (fun c15 => ?_)
    · skip
      have ht := isTh_of hm c6
      have ht2 := isTh_of hm c15
      have hA : AT K M o (M 38 o) (dM M o) := ⟨hm, ht.1, rfl, rfl⟩
      refine x_aload_n (dtk dt_X12_below 12 (20, .aload_n 0, 1) rfl) rfl ?_
      refine x_iload_n (dtk dt_X12_below 13 (21, .iload_n 1, 1) rfl) rfl ?_
      refine x_iload_n (dtk dt_X12_below 14 (22, .iload_n 2, 1) rfl) rfl ?_
      refine x_iload_n (dtk dt_X12_below 15 (23, .iload_n 3, 1) rfl) rfl ?_
      refine kc_X12_104 rfl (dtk dt_X12_below 16 (24, .invokevirtual 104, 3) rfl) (c_X12_isNext (G := G)  hA (by omega) (by omega)) rfl rfl (wk_36 hA.wf) (fitR (by decide) (by decide)) (Nat.le_of_ble_eq_true rfl) (pqK ?_)
      refine x_if_eqB (tgt := 34) (dtk dt_X12_below 17 (27, .ifCond .eq 7, 3) rfl) (by decide) (fun c27 => ?_) (fun c27 => ?_)
      · skip
        refine x_aload_n (dtk dt_X12_below 20 (34, .aload_n 0, 1) rfl) rfl ?_
        refine x_iload_n (dtk dt_X12_below 21 (35, .iload_n 1, 1) rfl) rfl ?_
        refine x_iload_n (dtk dt_X12_below 22 (36, .iload_n 2, 1) rfl) rfl ?_
        refine x_iload_n (dtk dt_X12_below 23 (37, .iload_n 3, 1) rfl) rfl ?_
        refine kc_X12_86 rfl (dtk dt_X12_below 24 (38, .invokevirtual 86, 3) rfl) (c_X12_isBelow (G := G)  hA (by omega) (by omega)) rfl rfl (wk_36 hA.wf) (fitR (by decide) (by decide)) (Nat.le_of_ble_eq_true rfl) (pqK ?_)
        refine x_if_eqB (tgt := 48) (dtk dt_X12_below 25 (41, .ifCond .eq 7, 3) rfl) (by decide) (fun c41 => ?_) (fun c41 => ?_)
        · skip
          refine x_iconst (v := 0) ⟨by decide, by decide⟩ (dtk dt_X12_below 28 (48, .iconst 0, 1) rfl) ?_
          exact r_i (dtk dt_X12_below 29 (49, .ireturn, 1) rfl) rfl (by simp_all) rfl
        · skip
          refine x_iconst (v := 1) ⟨by decide, by decide⟩ (dtk dt_X12_below 26 (44, .iconst 1, 1) rfl) ?_
          refine x_goto (tgt := 49) (dtk dt_X12_below 27 (45, .goto 4, 3) rfl) (by decide) ?_
          exact r_i (dtk dt_X12_below 29 (49, .ireturn, 1) rfl) rfl (by simp_all) rfl
      · skip
        refine x_iconst (v := 2) ⟨by decide, by decide⟩ (dtk dt_X12_below 18 (30, .iconst 2, 1) rfl) ?_
        refine x_goto (tgt := 49) (dtk dt_X12_below 19 (31, .goto 18, 3) rfl) (by decide) ?_
        exact r_i (dtk dt_X12_below 29 (49, .ireturn, 1) rfl) rfl (by simp_all) rfl
    · skip
      refine x_iconst (v := -1) ⟨by decide, by decide⟩ (dtk dt_X12_below 10 (18, .iconst (-1), 1) rfl) ?_
      exact r_i (dtk dt_X12_below 11 (19, .ireturn, 1) rfl) rfl (by simp_all) rfl
set_option maxRecDepth 100000 in
set_option maxHeartbeats 4000000 in
theorem c_X12_low {G : GG} {n : Nat} {K : KK} {M : MM} {o i : Int} (hm : MO K M) : MC G mi_X12_low 4 0 0 [(1, 36), (0, o), (0, i)] n K M (PQ (some (0, if isOr M o then lowI (M 38 o) (dM M o) i else -1)) n K (M)) := by
  refine MC.intro (lc := [(0, (1, 36)), (1, (0, o)), (2, (0, i))]) (by decide) rfl (by simp [Nat.ble]) (Nat.le_of_ble_eq_true rfl) rfl (fun hMR => ?_)
  refine x_aload_n (dtk dt_X12_low 0 (0, .aload_n 0, 1) rfl) rfl ?_
  refine x_iload_n (dtk dt_X12_low 1 (1, .iload_n 1, 1) rfl) rfl ?_
  refine kc_X12_78 rfl (dtk dt_X12_low 2 (2, .invokevirtual 78, 3) rfl) (c_X12_isOrder (G := G)  hm) rfl rfl (wk_36 hm.1) (fitR (by decide) (by decide)) (Nat.le_of_ble_eq_true rfl) (pqK ?_)
  refine x_if_eqB (tgt := 17) (dtk dt_X12_low 3 (5, .ifCond .eq 12, 3) rfl) (by decide) (fun c5 => ?_) (fun c5 => ?_)
  · skip
    refine x_iconst (v := -1) ⟨by decide, by decide⟩ (dtk dt_X12_low 9 (17, .iconst (-1), 1) rfl) ?_
    exact r_i (dtk dt_X12_low 10 (18, .ireturn, 1) rfl) rfl (by simp_all) rfl
  · skip
    have ho := isOr_of hm c5
    have hA : AT K M o (M 38 o) (dM M o) := ⟨hm, ho, rfl, rfl⟩
    refine x_aload_n (dtk dt_X12_low 4 (8, .aload_n 0, 1) rfl) rfl ?_
    refine x_iload_n (dtk dt_X12_low 5 (9, .iload_n 1, 1) rfl) rfl ?_
    refine x_iload_n (dtk dt_X12_low 6 (10, .iload_n 2, 1) rfl) rfl ?_
    refine kc_X12_130 rfl (dtk dt_X12_low 7 (11, .invokevirtual 130, 3) rfl) (c_X12_lowSet (G := G)  hA) rfl rfl (wk_36 hA.wf) (fitR (by decide) (by decide)) (Nat.le_of_ble_eq_true rfl) (pqK ?_)
    refine x_goto (tgt := 18) (dtk dt_X12_low 8 (14, .goto 4, 3) rfl) (by decide) ?_
    exact r_i (dtk dt_X12_low 10 (18, .ireturn, 1) rfl) rfl (by simp_all) rfl
set_option maxRecDepth 100000 in
set_option maxHeartbeats 4000000 in
theorem c_X12_widest {G : GG} {n : Nat} {K : KK} {M : MM} {o : Int} (hm : MO K M) : MC G mi_X12_widest 4 0 0 [(1, 36), (0, o)] n K M (PQ (some (0, if isOr M o then wide (M 38 o) (dM M o) else -1)) n K (M)) := by
  refine MC.intro (lc := [(0, (1, 36)), (1, (0, o))]) (by decide) rfl (by simp [Nat.ble]) (Nat.le_of_ble_eq_true rfl) rfl (fun hMR => ?_)
  refine x_aload_n (dtk dt_X12_widest 0 (0, .aload_n 0, 1) rfl) rfl ?_
  refine x_iload_n (dtk dt_X12_widest 1 (1, .iload_n 1, 1) rfl) rfl ?_
  refine kc_X12_78 rfl (dtk dt_X12_widest 2 (2, .invokevirtual 78, 3) rfl) (c_X12_isOrder (G := G)  hm) rfl rfl (wk_36 hm.1) (fitR (by decide) (by decide)) (Nat.le_of_ble_eq_true rfl) (pqK ?_)
  refine x_if_eqB (tgt := 16) (dtk dt_X12_widest 3 (5, .ifCond .eq 11, 3) rfl) (by decide) (fun c5 => ?_) (fun c5 => ?_)
  · skip
    refine x_iconst (v := -1) ⟨by decide, by decide⟩ (dtk dt_X12_widest 8 (16, .iconst (-1), 1) rfl) ?_
    exact r_i (dtk dt_X12_widest 9 (17, .ireturn, 1) rfl) rfl (by simp_all) rfl
  · skip
    have ho := isOr_of hm c5
    have hA : AT K M o (M 38 o) (dM M o) := ⟨hm, ho, rfl, rfl⟩
    refine x_aload_n (dtk dt_X12_widest 4 (8, .aload_n 0, 1) rfl) rfl ?_
    refine x_iload_n (dtk dt_X12_widest 5 (9, .iload_n 1, 1) rfl) rfl ?_
    refine kc_X12_176 rfl (dtk dt_X12_widest 6 (10, .invokevirtual 176, 3) rfl) (c_X12_widest0 (G := G)  hA) rfl rfl (wk_36 hA.wf) (fitR (by decide) (by decide)) (Nat.le_of_ble_eq_true rfl) (pqK ?_)
    refine x_goto (tgt := 17) (dtk dt_X12_widest 7 (13, .goto 4, 3) rfl) (by decide) ?_
    exact r_i (dtk dt_X12_widest 9 (17, .ireturn, 1) rfl) rfl (by simp_all) rfl
set_option maxRecDepth 100000 in
set_option maxHeartbeats 4000000 in
theorem c_X12_bound {G : GG} {n : Nat} {K : KK} {M : MM} {o a b w : Int} (hm : MO K M) : MC G mi_X12_bound 5 0 0 [(1, 36), (0, o), (0, a), (0, b), (0, w)] n K M (PQ (some (0, if isTh M o a && isTh M o b && (decide (w = 0) || decide (w = 1)) then bnd (M 38 o) (dM M o) w a b else -2)) n K (M)) := by
  refine MC.intro (lc := [(0, (1, 36)), (1, (0, o)), (2, (0, a)), (3, (0, b)), (4, (0, w))]) (by decide) rfl (by simp [Nat.ble]) (Nat.le_of_ble_eq_true rfl) rfl (fun hMR => ?_)
  refine x_aload_n (dtk dt_X12_bound 0 (0, .aload_n 0, 1) rfl) rfl ?_
  refine x_iload_n (dtk dt_X12_bound 1 (1, .iload_n 1, 1) rfl) rfl ?_
  refine x_iload_n (dtk dt_X12_bound 2 (2, .iload_n 2, 1) rfl) rfl ?_
  refine kc_X12_110 rfl (dtk dt_X12_bound 3 (3, .invokevirtual 110, 3) rfl) (c_X12_isThing (G := G)  hm) rfl rfl (wk_36 hm.1) (fitR (by decide) (by decide)) (Nat.le_of_ble_eq_true rfl) (pqK ?_)
  refine x_if_eqB (tgt := 40) (dtk dt_X12_bound 4 (6, .ifCond .eq 34, 3) rfl) (by decide) (fun c6 => ?_) (fun c6 => ?_)
  · skip
    refine x_bipush (v := -2) ⟨by decide, by decide⟩ (dtk dt_X12_bound 22 (40, .bipush (-2), 2) rfl) ?_
    exact r_i (dtk dt_X12_bound 23 (42, .ireturn, 1) rfl) rfl (by simp_all) rfl
  · skip
    refine x_aload_n (dtk dt_X12_bound 5 (9, .aload_n 0, 1) rfl) rfl ?_
    refine x_iload_n (dtk dt_X12_bound 6 (10, .iload_n 1, 1) rfl) rfl ?_
    refine x_iload_n (dtk dt_X12_bound 7 (11, .iload_n 3, 1) rfl) rfl ?_
    refine kc_X12_110 rfl (dtk dt_X12_bound 8 (12, .invokevirtual 110, 3) rfl) (c_X12_isThing (G := G)  hm) rfl rfl (wk_36 hm.1) (fitR (by decide) (by decide)) (Nat.le_of_ble_eq_true rfl) (pqK ?_)
    refine x_if_eqB (tgt := 40) (dtk dt_X12_bound 9 (15, .ifCond .eq 25, 3) rfl) (by decide) (fun c15 => ?_) (fun c15 => ?_)
    · skip
      refine x_bipush (v := -2) ⟨by decide, by decide⟩ (dtk dt_X12_bound 22 (40, .bipush (-2), 2) rfl) ?_
      exact r_i (dtk dt_X12_bound 23 (42, .ireturn, 1) rfl) rfl (by simp_all) rfl
    · skip
      refine x_iload (dtk dt_X12_bound 10 (18, .iload 4, 2) rfl) rfl ?_
      refine x_iconst (v := 0) ⟨by decide, by decide⟩ (dtk dt_X12_bound 11 (20, .iconst 0, 1) rfl) ?_
      refine x_iconst (v := 1) ⟨by decide, by decide⟩ (dtk dt_X12_bound 12 (21, .iconst 1, 1) rfl) ?_
      refine kc_X12_74 rfl (dtk dt_X12_bound 13 (22, .invokestatic 74, 3) rfl) (c_X12_in (G := G)  ) rfl rfl (fitR (by decide) (by decide)) (Nat.le_of_ble_eq_true rfl) (pqK ?_)
      refine x_if_eqB (tgt := 40) (dtk dt_X12_bound 14 (25, .ifCond .eq 15, 3) rfl) (by decide) (fun c25 => ?_) (fun c25 => ?_)
      · skip
        have hw : ¬ (w = 0 ∨ w = 1) := by (simp at c25; omega)
        refine x_bipush (v := -2) ⟨by decide, by decide⟩ (dtk dt_X12_bound 22 (40, .bipush (-2), 2) rfl) ?_
        exact r_i (dtk dt_X12_bound 23 (42, .ireturn, 1) rfl) rfl (by simp_all) rfl
      · skip
        have ht := isTh_of hm c6
        have ht2 := isTh_of hm c15
        have hA : AT K M o (M 38 o) (dM M o) := ⟨hm, ht.1, rfl, rfl⟩
        have hw : w = 0 ∨ w = 1 := by (simp at c25; omega)
        refine x_aload_n (dtk dt_X12_bound 15 (28, .aload_n 0, 1) rfl) rfl ?_
        refine x_iload_n (dtk dt_X12_bound 16 (29, .iload_n 1, 1) rfl) rfl ?_
        refine x_iload_n (dtk dt_X12_bound 17 (30, .iload_n 2, 1) rfl) rfl ?_
        refine x_iload_n (dtk dt_X12_bound 18 (31, .iload_n 3, 1) rfl) rfl ?_
        refine x_iload (dtk dt_X12_bound 19 (32, .iload 4, 2) rfl) rfl ?_
        refine kc_X12_205 rfl (dtk dt_X12_bound 20 (34, .invokevirtual 205, 3) rfl) (c_X12_bound0 (G := G)  hA (by omega) (by omega)) rfl rfl (wk_36 hA.wf) (fitR (by decide) (by decide)) (Nat.le_of_ble_eq_true rfl) (pqK ?_)
        refine x_goto (tgt := 42) (dtk dt_X12_bound 21 (37, .goto 5, 3) rfl) (by decide) ?_
        exact r_i (dtk dt_X12_bound 23 (42, .ireturn, 1) rfl) rfl (by simp_all) rfl
set_option maxRecDepth 100000 in
set_option maxHeartbeats 4000000 in
theorem c_X12_uneven {G : GG} {n : Nat} {K : KK} {M : MM} {o : Int} (hm : MO K M) : MC G mi_X12_uneven 6 0 0 [(1, 36), (0, o)] n K M (PQ (some (0, if isOr M o && latt (M 38 o) (dM M o) then une (M 38 o) (dM M o) else -1)) n K (M)) := by
  refine MC.intro (lc := [(0, (1, 36)), (1, (0, o))]) (by decide) rfl (by simp [Nat.ble]) (Nat.le_of_ble_eq_true rfl) rfl (fun hMR => ?_)
  refine x_aload_n (dtk dt_X12_uneven 0 (0, .aload_n 0, 1) rfl) rfl ?_
  refine x_iload_n (dtk dt_X12_uneven 1 (1, .iload_n 1, 1) rfl) rfl ?_
  refine kc_X12_78 rfl (dtk dt_X12_uneven 2 (2, .invokevirtual 78, 3) rfl) (c_X12_isOrder (G := G)  hm) rfl rfl (wk_36 hm.1) (fitR (by decide) (by decide)) (Nat.le_of_ble_eq_true rfl) (pqK ?_)
  refine x_if_eqB (tgt := 24) (dtk dt_X12_uneven 3 (5, .ifCond .eq 19, 3) rfl) (by decide) (fun c5 => ?_) (fun c5 => ?_)
  · skip
    refine x_iconst (v := -1) ⟨by decide, by decide⟩ (dtk dt_X12_uneven 12 (24, .iconst (-1), 1) rfl) ?_
    exact r_i (dtk dt_X12_uneven 13 (25, .ireturn, 1) rfl) rfl (by simp_all) rfl
  · skip
    have ho := isOr_of hm c5
    have hA : AT K M o (M 38 o) (dM M o) := ⟨hm, ho, rfl, rfl⟩
    refine x_aload_n (dtk dt_X12_uneven 4 (8, .aload_n 0, 1) rfl) rfl ?_
    refine x_iload_n (dtk dt_X12_uneven 5 (9, .iload_n 1, 1) rfl) rfl ?_
    refine kc_X12_209 rfl (dtk dt_X12_uneven 6 (10, .invokevirtual 209, 3) rfl) (c_X12_isLattice (G := G)  hA) rfl rfl (wk_36 hA.wf) (fitR (by decide) (by decide)) (Nat.le_of_ble_eq_true rfl) (pqK ?_)
    refine x_if_eqB (tgt := 24) (dtk dt_X12_uneven 7 (13, .ifCond .eq 11, 3) rfl) (by decide) (fun c13 => ?_) (fun c13 => ?_)
    · skip
      refine x_iconst (v := -1) ⟨by decide, by decide⟩ (dtk dt_X12_uneven 12 (24, .iconst (-1), 1) rfl) ?_
      exact r_i (dtk dt_X12_uneven 13 (25, .ireturn, 1) rfl) rfl (by simp_all) rfl
    · skip
      refine x_aload_n (dtk dt_X12_uneven 8 (16, .aload_n 0, 1) rfl) rfl ?_
      refine x_iload_n (dtk dt_X12_uneven 9 (17, .iload_n 1, 1) rfl) rfl ?_
      refine kc_X12_212 rfl (dtk dt_X12_uneven 10 (18, .invokevirtual 212, 3) rfl) (c_X12_uneven0 (G := G)  hA c13) rfl rfl (wk_36 hA.wf) (fitR (by decide) (by decide)) (Nat.le_of_ble_eq_true rfl) (pqK ?_)
      refine x_goto (tgt := 25) (dtk dt_X12_uneven 11 (21, .goto 4, 3) rfl) (by decide) ?_
      exact r_i (dtk dt_X12_uneven 13 (25, .ireturn, 1) rfl) rfl (by simp_all) rfl
set_option maxRecDepth 100000 in
set_option maxHeartbeats 4000000 in
theorem c_X12_round {G : GG} {n : Nat} {K : KK} {M : MM} {i : Int} (hw : WF K M) (hr : 0 ≤ M 36 7 ∧ M 36 7 ≤ 10) : MC G mi_X12_round 2 0 0 [(1, 36), (0, i)] n K M (PQ (some (0, if 0 ≤ i ∧ i < M 36 7 then M 41 i else -1)) n K (M)) := by
  refine MC.intro (lc := [(0, (1, 36)), (1, (0, i))]) (by decide) rfl (by simp [Nat.ble]) (Nat.le_of_ble_eq_true rfl) rfl (fun hMR => ?_)
  refine x_iload_n (dtk dt_X12_round 0 (0, .iload_n 1, 1) rfl) rfl ?_
  refine x_iconst (v := 0) ⟨by decide, by decide⟩ (dtk dt_X12_round 1 (1, .iconst 0, 1) rfl) ?_
  refine x_aload_n (dtk dt_X12_round 2 (2, .aload_n 0, 1) rfl) rfl ?_
  refine fg_X12_107 rfl (dtk dt_X12_round 3 (3, .getfield 107, 3) rfl) (wk_36 hw) rfl ?_
  refine x_iconst (v := 1) ⟨by decide, by decide⟩ (dtk dt_X12_round 4 (6, .iconst 1, 1) rfl) ?_
  refine y_isub (dtk dt_X12_round 5 (7, .isub, 1) rfl) ⟨by omega, by omega⟩ ?_
  refine kc_X12_74 rfl (dtk dt_X12_round 6 (8, .invokestatic 74, 3) rfl) (c_X12_in (G := G)  ) rfl rfl (fitR (by decide) (by decide)) (Nat.le_of_ble_eq_true rfl) (pqK ?_)
  refine x_if_eqB (tgt := 23) (dtk dt_X12_round 7 (11, .ifCond .eq 12, 3) rfl) (by decide) (fun c11 => ?_) (fun c11 => ?_)
  · skip
    simp at c11
    refine x_iconst (v := -1) ⟨by decide, by decide⟩ (dtk dt_X12_round 13 (23, .iconst (-1), 1) rfl) ?_
    exact r_i (dtk dt_X12_round 14 (24, .ireturn, 1) rfl) rfl (by first | (rw [if_pos (by omega)]) | (rw [if_neg (by omega)])) rfl
  · skip
    simp at c11
    refine x_aload_n (dtk dt_X12_round 8 (14, .aload_n 0, 1) rfl) rfl ?_
    refine fg_X12_26 rfl (dtk dt_X12_round 9 (15, .getfield 26, 3) rfl) (wk_36 hw) (wm_36_8 hw) ?_
    refine x_iload_n (dtk dt_X12_round 10 (18, .iload_n 1, 1) rfl) rfl ?_
    refine x_iald (dtk dt_X12_round 11 (19, .iaload, 1) rfl) (wk_41 hw) ⟨by omega, by omega⟩ ?_
    refine x_goto (tgt := 24) (dtk dt_X12_round 12 (20, .goto 4, 3) rfl) (by decide) ?_
    exact r_i (dtk dt_X12_round 14 (24, .ireturn, 1) rfl) rfl (by first | (rw [if_pos (by omega)]) | (rw [if_neg (by omega)])) rfl
set_option maxRecDepth 100000 in
set_option maxHeartbeats 4000000 in
theorem c_X12_status {G : GG} {n : Nat} {K : KK} {M : MM}  (hw : WF K M) : MC G mi_X12_status 1 0 0 [(1, 36)] n K M (PQ (some (0, M 36 12)) n K (M)) := by
  refine MC.intro (lc := [(0, (1, 36))]) (by decide) rfl (by simp [Nat.ble]) (Nat.le_of_ble_eq_true rfl) rfl (fun hMR => ?_)
  refine x_aload_n (dtk dt_X12_status 0 (0, .aload_n 0, 1) rfl) rfl ?_
  refine fg_X12_68 rfl (dtk dt_X12_status 1 (1, .getfield 68, 3) rfl) (wk_36 hw) rfl ?_
  exact r_i (dtk dt_X12_status 2 (4, .ireturn, 1) rfl) rfl rfl rfl
set_option maxRecDepth 100000 in
set_option maxHeartbeats 4000000 in
theorem c_X12_isStack {G : GG} {n : Nat} {K : KK} {M : MM} {o : Int} (hw : WF K M) (ho : 0 ≤ o ∧ o < 8) : MC G mi_X12_isStack 1 0 0 [(1, 36), (0, o)] n K M (PQ (some (0, B (decide (M 37 o ≠ 0) && decide (M 37 o ≠ 4)))) n K (M)) := by
  refine MC.intro (lc := [(0, (1, 36)), (1, (0, o))]) (by decide) rfl (by simp [Nat.ble]) (Nat.le_of_ble_eq_true rfl) rfl (fun hMR => ?_)
  refine x_aload_n (dtk dt_X12_isStack 0 (0, .aload_n 0, 1) rfl) rfl ?_
  refine fg_X12_7 rfl (dtk dt_X12_isStack 1 (1, .getfield 7, 3) rfl) (wk_36 hw) (wm_36_1 hw) ?_
  refine x_iload_n (dtk dt_X12_isStack 2 (4, .iload_n 1, 1) rfl) rfl ?_
  refine x_iald (dtk dt_X12_isStack 3 (5, .iaload, 1) rfl) (wk_37 hw) ⟨by omega, by omega⟩ ?_
  refine x_if_eq (tgt := 23) (dtk dt_X12_isStack 4 (6, .ifCond .eq 17, 3) rfl) (by decide) (fun c6 => ?_) (fun c6 => ?_)
  · skip
    refine x_iconst (v := 0) ⟨by decide, by decide⟩ (dtk dt_X12_isStack 13 (23, .iconst 0, 1) rfl) ?_
    exact r_b (b := false) (dtk dt_X12_isStack 14 (24, .ireturn, 1) rfl) rfl (by simp_all) rfl
  · skip
    refine x_aload_n (dtk dt_X12_isStack 5 (9, .aload_n 0, 1) rfl) rfl ?_
    refine fg_X12_7 rfl (dtk dt_X12_isStack 6 (10, .getfield 7, 3) rfl) (wk_36 hw) (wm_36_1 hw) ?_
    refine x_iload_n (dtk dt_X12_isStack 7 (13, .iload_n 1, 1) rfl) rfl ?_
    refine x_iald (dtk dt_X12_isStack 8 (14, .iaload, 1) rfl) (wk_37 hw) ⟨by omega, by omega⟩ ?_
    refine x_iconst (v := 4) ⟨by decide, by decide⟩ (dtk dt_X12_isStack 9 (15, .iconst 4, 1) rfl) ?_
    refine x_icmp_eq (tgt := 23) (dtk dt_X12_isStack 10 (16, .if_icmp .eq 7, 3) rfl) (by decide) (fun c16 => ?_) (fun c16 => ?_)
    · skip
      refine x_iconst (v := 0) ⟨by decide, by decide⟩ (dtk dt_X12_isStack 13 (23, .iconst 0, 1) rfl) ?_
      exact r_b (b := false) (dtk dt_X12_isStack 14 (24, .ireturn, 1) rfl) rfl (by simp_all) rfl
    · skip
      refine x_iconst (v := 1) ⟨by decide, by decide⟩ (dtk dt_X12_isStack 11 (19, .iconst 1, 1) rfl) ?_
      refine x_goto (tgt := 24) (dtk dt_X12_isStack 12 (20, .goto 4, 3) rfl) (by decide) ?_
      exact r_b (b := true) (dtk dt_X12_isStack 14 (24, .ireturn, 1) rfl) rfl (by simp_all) rfl
set_option maxRecDepth 100000 in
set_option maxHeartbeats 4000000 in
theorem c_X12_modulo {G : GG} {n : Nat} {K : KK} {M : MM} {x k : Int} (hx : -100 ≤ x ∧ x ≤ 100) (hk : 1 ≤ k ∧ k ≤ 8) : MC G mi_X12_modulo 1 0 0 [(0, x), (0, k)] n K M (PQ (some (0, mdl x k)) n K (M)) := by
  refine MC.intro (lc := [(0, (0, x)), (1, (0, k))]) (by decide) rfl (by simp [Nat.ble]) (Nat.le_of_ble_eq_true rfl) rfl (fun hMR => ?_)
  refine x_iload_n (dtk dt_X12_modulo 0 (0, .iload_n 0, 1) rfl) rfl ?_
  refine x_iload_n (dtk dt_X12_modulo 1 (1, .iload_n 1, 1) rfl) rfl ?_
  refine x_irem (by omega) (dtk dt_X12_modulo 2 (2, .irem, 1) rfl) ?_
  have h1 := Int.tmod_lt_of_pos x (show 0 < k by omega)
  have h2 : -k < x.tmod k := by (have := Int.lt_tmod_of_pos x (show 0 < k by omega); exact this)
  refine x_iload_n (dtk dt_X12_modulo 3 (3, .iload_n 1, 1) rfl) rfl ?_
  refine y_iadd (dtk dt_X12_modulo 4 (4, .iadd, 1) rfl) ⟨by omega, by omega⟩ ?_
  refine x_iload_n (dtk dt_X12_modulo 5 (5, .iload_n 1, 1) rfl) rfl ?_
  refine x_irem (by omega) (dtk dt_X12_modulo 6 (6, .irem, 1) rfl) ?_
  exact r_i (dtk dt_X12_modulo 7 (7, .ireturn, 1) rfl) rfl rfl rfl
