/-! ===== the model: pairs, told ===== -/
set_option maxRecDepth 100000 in
set_option maxHeartbeats 4000000 in
theorem c_X12_pair {G : GG} {n : Nat} {K : KK} {M : MM} {o a b : Int} (hm : MO K M) (hP : isOr M o = true → PO (M 38 o) (dM M o)) : MC G mi_X12_pair 5 0 0 [(1, 36), (0, o), (0, a), (0, b)] n K M (paQ M o a b n K) := by
  refine MC.intro (lc := [(0, (1, 36)), (1, (0, o)), (2, (0, a)), (3, (0, b))]) (by decide) rfl (by simp [Nat.ble]) (Nat.le_of_ble_eq_true rfl) rfl (fun hMR => ?_)
  refine x_aload_n (dtk dt_X12_pair 0 (0, .aload_n 0, 1) rfl) rfl ?_
  refine x_iload_n (dtk dt_X12_pair 1 (1, .iload_n 1, 1) rfl) rfl ?_
  refine x_iload_n (dtk dt_X12_pair 2 (2, .iload_n 2, 1) rfl) rfl ?_
  refine kc_X12_110 rfl (dtk dt_X12_pair 3 (3, .invokevirtual 110, 3) rfl) (c_X12_isThing (G := G)  hm) rfl rfl (wk_36 hm.1) (fitR (by decide) (by decide)) (Nat.le_of_ble_eq_true rfl) (pqK ?_)
  refine x_if_eqB (tgt := 23) (dtk dt_X12_pair 4 (6, .ifCond .eq 17, 3) rfl) (by decide) (fun c6 => ?_) (fun c6 => ?_)
  · skip
    refine x_aload_n (dtk dt_X12_pair 13 (23, .aload_n 0, 1) rfl) rfl ?_
    refine x_iconst (v := 1) ⟨by decide, by decide⟩ (dtk dt_X12_pair 14 (24, .iconst 1, 1) rfl) ?_
    refine kc_X12_89 rfl (dtk dt_X12_pair 15 (25, .invokevirtual 89, 3) rfl) (c_X12_refused (G := G)  hm.1) rfl rfl (wk_36 hm.1) (fitR (by decide) (by decide)) (Nat.le_of_ble_eq_true rfl) (pqK ?_)
    exact x_iret (dtk dt_X12_pair 16 (28, .ireturn, 1) rfl) rfl ⟨rfl, rfl, Or.inl ⟨by first | (rw [c6]; rfl) | (rw [c15, Bool.and_false]; rfl) | (rw [decide_eq_false (by omega), Bool.and_false]), rfl, rfl⟩⟩
  · skip
    have ht := isTh_of hm c6
    refine x_aload_n (dtk dt_X12_pair 5 (9, .aload_n 0, 1) rfl) rfl ?_
    refine x_iload_n (dtk dt_X12_pair 6 (10, .iload_n 1, 1) rfl) rfl ?_
    refine x_iload_n (dtk dt_X12_pair 7 (11, .iload_n 3, 1) rfl) rfl ?_
    refine kc_X12_110 rfl (dtk dt_X12_pair 8 (12, .invokevirtual 110, 3) rfl) (c_X12_isThing (G := G)  hm) rfl rfl (wk_36 hm.1) (fitR (by decide) (by decide)) (Nat.le_of_ble_eq_true rfl) (pqK ?_)
    refine x_if_eqB (tgt := 23) (dtk dt_X12_pair 9 (15, .ifCond .eq 8, 3) rfl) (by decide) (fun c15 => ?_) (fun c15 => ?_)
    · skip
      refine x_aload_n (dtk dt_X12_pair 13 (23, .aload_n 0, 1) rfl) rfl ?_
      refine x_iconst (v := 1) ⟨by decide, by decide⟩ (dtk dt_X12_pair 14 (24, .iconst 1, 1) rfl) ?_
      refine kc_X12_89 rfl (dtk dt_X12_pair 15 (25, .invokevirtual 89, 3) rfl) (c_X12_refused (G := G)  hm.1) rfl rfl (wk_36 hm.1) (fitR (by decide) (by decide)) (Nat.le_of_ble_eq_true rfl) (pqK ?_)
      exact x_iret (dtk dt_X12_pair 16 (28, .ireturn, 1) rfl) rfl ⟨rfl, rfl, Or.inl ⟨by first | (rw [c6]; rfl) | (rw [c15, Bool.and_false]; rfl) | (rw [decide_eq_false (by omega), Bool.and_false]), rfl, rfl⟩⟩
    · skip
      have ht2 := isTh_of hm c15
      refine x_iload_n (dtk dt_X12_pair 10 (18, .iload_n 2, 1) rfl) rfl ?_
      refine x_iload_n (dtk dt_X12_pair 11 (19, .iload_n 3, 1) rfl) rfl ?_
      refine x_icmp_ne (tgt := 29) (dtk dt_X12_pair 12 (20, .if_icmp .ne 9, 3) rfl) (by decide) (fun c20 => ?_) (fun c20 => ?_)
      · skip
        have hc : (isTh M o a && isTh M o b && decide (a ≠ b)) = true := by (rw [c6, c15]; simp; exact c20)
        have hA : AT K M o (M 38 o) (dM M o) := ⟨hm, ht.1, rfl, rfl⟩
        refine x_aload_n (dtk dt_X12_pair 17 (29, .aload_n 0, 1) rfl) rfl ?_
        refine fg_X12_7 rfl (dtk dt_X12_pair 18 (30, .getfield 7, 3) rfl) (wk_36 hm.1) (wm_36_1 hm.1) ?_
        refine x_iload_n (dtk dt_X12_pair 19 (33, .iload_n 1, 1) rfl) rfl ?_
        refine x_iald (dtk dt_X12_pair 20 (34, .iaload, 1) rfl) (wk_37 hm.1) ⟨by omega, by omega⟩ ?_
        refine x_if_eq (tgt := 44) (dtk dt_X12_pair 21 (35, .ifCond .eq 9, 3) rfl) (by decide) (fun c35 => ?_) (fun c35 => ?_)
        · skip
          refine x_aload_n (dtk dt_X12_pair 26 (44, .aload_n 0, 1) rfl) rfl ?_
          refine x_iload_n (dtk dt_X12_pair 27 (45, .iload_n 1, 1) rfl) rfl ?_
          refine x_iload_n (dtk dt_X12_pair 28 (46, .iload_n 3, 1) rfl) rfl ?_
          refine x_iload_n (dtk dt_X12_pair 29 (47, .iload_n 2, 1) rfl) rfl ?_
          refine kc_X12_86 rfl (dtk dt_X12_pair 30 (48, .invokevirtual 86, 3) rfl) (c_X12_isBelow (G := G)  hA (by omega) (by omega)) rfl rfl (wk_36 hm.1) (fitR (by decide) (by decide)) (Nat.le_of_ble_eq_true rfl) (pqK ?_)
          refine x_if_eqB (tgt := 67) (dtk dt_X12_pair 31 (51, .ifCond .eq 16, 3) rfl) (by decide) (fun c51 => ?_) (fun c51 => ?_)
          · skip
            refine x_aload_n (dtk dt_X12_pair 41 (67, .aload_n 0, 1) rfl) rfl ?_
            refine x_iconst (v := 0) ⟨by decide, by decide⟩ (dtk dt_X12_pair 42 (68, .iconst 0, 1) rfl) ?_
            refine fp_X12_107 rfl (dtk dt_X12_pair 43 (69, .putfield 107, 3) rfl) (wk_36 hm.1) ?_
            have hm7 : MO K (st2 M 36 7 0) := hm.fl (by decide) rfl
            have hA7 : AT K (st2 M 36 7 0) o (M 38 o) (dM M o) := hA.fl (by decide) rfl
            have e38 : st2 M 36 7 0 38 o = M 38 o := by rw [st2_ne _ (show (38 : Int) ≠ 36 by decide)]
            refine x_aload_n (dtk dt_X12_pair 44 (72, .aload_n 0, 1) rfl) rfl ?_
            refine x_iload_n (dtk dt_X12_pair 45 (73, .iload_n 1, 1) rfl) rfl ?_
            refine x_iload_n (dtk dt_X12_pair 46 (74, .iload_n 2, 1) rfl) rfl ?_
            refine x_iload_n (dtk dt_X12_pair 47 (75, .iload_n 3, 1) rfl) rfl ?_
            refine kc_X12_86 rfl (dtk dt_X12_pair 48 (76, .invokevirtual 86, 3) rfl) (c_X12_isBelow (G := G)  hA7 (by omega) (by omega)) rfl rfl (wk_36 hm.1) (fitR (by decide) (by decide)) (Nat.le_of_ble_eq_true rfl) (pqK ?_)
            refine x_istore (dtk dt_X12_pair 49 (79, .istore 4, 2) rfl) (by decide) ?_
            refine x_aload_n (dtk dt_X12_pair 50 (81, .aload_n 0, 1) rfl) rfl ?_
            refine x_iload_n (dtk dt_X12_pair 51 (82, .iload_n 1, 1) rfl) rfl ?_
            refine x_iload_n (dtk dt_X12_pair 52 (83, .iload_n 2, 1) rfl) rfl ?_
            refine x_iload_n (dtk dt_X12_pair 53 (84, .iload_n 3, 1) rfl) rfl ?_
            refine kc_X12_117 rfl (dtk dt_X12_pair 54 (85, .invokevirtual 117, 3) rfl) (c_X12_tell (G := G)  hm7 (by omega) (by rw [e38]; omega) (by omega)) rfl rfl (wk_36 hm.1) (fitR (by decide) (by decide)) (Nat.le_of_ble_eq_true rfl) (pqK ?_)
            refine x_aload_n (dtk dt_X12_pair 55 (88, .aload_n 0, 1) rfl) rfl ?_
            refine x_iload (dtk dt_X12_pair 56 (89, .iload 4, 2) rfl) rfl ?_
            refine x_if_eqB (tgt := 98) (dtk dt_X12_pair 57 (91, .ifCond .eq 7, 3) rfl) (by decide) (fun c91 => ?_) (fun c91 => ?_)
            · skip
              refine x_iconst (v := 1) ⟨by decide, by decide⟩ (dtk dt_X12_pair 60 (98, .iconst 1, 1) rfl) ?_
              refine kc_X12_97 rfl (dtk dt_X12_pair 61 (99, .invokevirtual 97, 3) rfl) (c_X12_done (G := G)  (hm7.tl ht.1 (by rw [e38]; omega)).1) rfl rfl (wk_36 hm.1) (fitR (by decide) (by decide)) (Nat.le_of_ble_eq_true rfl) (pqK ?_)
              exact x_iret (dtk dt_X12_pair 62 (102, .ireturn, 1) rfl) rfl ⟨rfl, rfl, Or.inr (Or.inr (Or.inr ⟨hc, by omega, c51, by rw [c91]; rfl, rfl⟩))⟩
            · skip
              refine x_iconst (v := 0) ⟨by decide, by decide⟩ (dtk dt_X12_pair 58 (94, .iconst 0, 1) rfl) ?_
              refine x_goto (tgt := 99) (dtk dt_X12_pair 59 (95, .goto 4, 3) rfl) (by decide) ?_
              refine kc_X12_97 rfl (dtk dt_X12_pair 61 (99, .invokevirtual 97, 3) rfl) (c_X12_done (G := G)  (hm7.tl ht.1 (by rw [e38]; omega)).1) rfl rfl (wk_36 hm.1) (fitR (by decide) (by decide)) (Nat.le_of_ble_eq_true rfl) (pqK ?_)
              exact x_iret (dtk dt_X12_pair 62 (102, .ireturn, 1) rfl) rfl ⟨rfl, rfl, Or.inr (Or.inr (Or.inr ⟨hc, by omega, c51, by rw [c91]; rfl, rfl⟩))⟩
          · skip
            refine x_aload_n (dtk dt_X12_pair 32 (54, .aload_n 0, 1) rfl) rfl ?_
            refine x_iload_n (dtk dt_X12_pair 33 (55, .iload_n 1, 1) rfl) rfl ?_
            refine x_iload_n (dtk dt_X12_pair 34 (56, .iload_n 3, 1) rfl) rfl ?_
            refine x_iload_n (dtk dt_X12_pair 35 (57, .iload_n 2, 1) rfl) rfl ?_
            refine kc_X12_113 rfl (dtk dt_X12_pair 36 (58, .invokevirtual 113, 3) rfl) (c_X12_findRound (G := G)  hA (hP ht.2.2.2) (by omega) (by omega) c51) rfl rfl (wk_36 hm.1) (fitR (by decide) (by decide)) (Nat.le_of_ble_eq_true rfl) (uqK (fun M58_1 hs58_1 hE58_1 => ?_))
            have hE := hE58_1
            have hs0 := hs58_1
            refine x_aload_n (dtk dt_X12_pair 37 (61, .aload_n 0, 1) rfl) rfl ?_
            refine x_iconst (v := 3) ⟨by decide, by decide⟩ (dtk dt_X12_pair 38 (62, .iconst 3, 1) rfl) ?_
            refine kc_X12_89 rfl (dtk dt_X12_pair 39 (63, .invokevirtual 89, 3) rfl) (c_X12_refused (G := G)  (hm.off_sr hs0).1) rfl rfl (wk_36 hm.1) (fitR (by decide) (by decide)) (Nat.le_of_ble_eq_true rfl) (pqK ?_)
            exact x_iret (dtk dt_X12_pair 40 (66, .ireturn, 1) rfl) rfl ⟨rfl, rfl, Or.inr (Or.inr (Or.inl ⟨hc, by omega, c51, rfl, _, hs0, hE, rfl⟩))⟩
        · skip
          refine x_aload_n (dtk dt_X12_pair 22 (38, .aload_n 0, 1) rfl) rfl ?_
          refine x_iconst (v := 3) ⟨by decide, by decide⟩ (dtk dt_X12_pair 23 (39, .iconst 3, 1) rfl) ?_
          refine kc_X12_89 rfl (dtk dt_X12_pair 24 (40, .invokevirtual 89, 3) rfl) (c_X12_refused (G := G)  hm.1) rfl rfl (wk_36 hm.1) (fitR (by decide) (by decide)) (Nat.le_of_ble_eq_true rfl) (pqK ?_)
          exact x_iret (dtk dt_X12_pair 25 (43, .ireturn, 1) rfl) rfl ⟨rfl, rfl, Or.inr (Or.inl ⟨hc, c35, rfl, rfl⟩)⟩
      · skip
        refine x_aload_n (dtk dt_X12_pair 13 (23, .aload_n 0, 1) rfl) rfl ?_
        refine x_iconst (v := 1) ⟨by decide, by decide⟩ (dtk dt_X12_pair 14 (24, .iconst 1, 1) rfl) ?_
        refine kc_X12_89 rfl (dtk dt_X12_pair 15 (25, .invokevirtual 89, 3) rfl) (c_X12_refused (G := G)  hm.1) rfl rfl (wk_36 hm.1) (fitR (by decide) (by decide)) (Nat.le_of_ble_eq_true rfl) (pqK ?_)
        exact x_iret (dtk dt_X12_pair 16 (28, .ireturn, 1) rfl) rfl ⟨rfl, rfl, Or.inl ⟨by first | (rw [c6]; rfl) | (rw [c15, Bool.and_false]; rfl) | (rw [decide_eq_false (by omega), Bool.and_false]), rfl, rfl⟩⟩
set_option maxRecDepth 100000 in
set_option maxHeartbeats 4000000 in
theorem c_X12_truth {G : GG} {n : Nat} {K : KK} {M : MM} {o w : Int} (hm : MO K M) (ho : isOr M o = true) (hP : PO (M 38 o) (dM M o)) (hT : TW M) : MC G mi_X12_truth 6 0 0 [(1, 36), (0, o), (0, w)] n K M (UQ sd (some (0, truR (M 38 o) (dM M o) w)) n K M (TW)) := by
  refine MC.intro (lc := [(0, (1, 36)), (1, (0, o)), (2, (0, w))]) (by decide) rfl (by simp [Nat.ble]) (Nat.le_of_ble_eq_true rfl) rfl (fun hMR => ?_)
  have ho8 := isOr_of hm ho
  have hA : AT K M o (M 38 o) (dM M o) := ⟨hm, ho8, rfl, rfl⟩
  refine x_iload_n (dtk dt_X12_truth 0 (0, .iload_n 2, 1) rfl) rfl ?_
  by_cases s1_9 : w = 9
  · skip
    refine x_tsIn (tgt := 32) (off := 31) (dtk dt_X12_truth 1 (1, .tableswitch 101 9 12 #[31, 45, 68, 83], 31) rfl) (by omega) (by omega) (by rw [s1_9]; rfl) (by decide) ?_
    refine x_aload_n (dtk dt_X12_truth 2 (32, .aload_n 0, 1) rfl) rfl ?_
    refine x_iload_n (dtk dt_X12_truth 3 (33, .iload_n 1, 1) rfl) rfl ?_
    refine kc_X12_209 rfl (dtk dt_X12_truth 4 (34, .invokevirtual 209, 3) rfl) (c_X12_isLattice (G := G)  hA) rfl rfl (wk_36 hA.wf) (fitR (by decide) (by decide)) (Nat.le_of_ble_eq_true rfl) (pqK ?_)
    refine x_if_eqB (tgt := 44) (dtk dt_X12_truth 5 (37, .ifCond .eq 7, 3) rfl) (by decide) (fun c37 => ?_) (fun c37 => ?_)
    · skip
      refine x_iconst (v := 0) ⟨by decide, by decide⟩ (dtk dt_X12_truth 8 (44, .iconst 0, 1) rfl) ?_
      exact ru_i (dtk dt_X12_truth 9 (45, .ireturn, 1) rfl) rfl (by unfold truR; simp_all [B]) sd.rf hT
    · skip
      refine x_iconst (v := 1) ⟨by decide, by decide⟩ (dtk dt_X12_truth 6 (40, .iconst 1, 1) rfl) ?_
      refine x_goto (tgt := 45) (dtk dt_X12_truth 7 (41, .goto 4, 3) rfl) (by decide) ?_
      exact ru_i (dtk dt_X12_truth 9 (45, .ireturn, 1) rfl) rfl (by unfold truR; simp_all [B]) sd.rf hT
  by_cases s1_10 : w = 10
  · skip
    refine x_tsIn (tgt := 46) (off := 45) (dtk dt_X12_truth 1 (1, .tableswitch 101 9 12 #[31, 45, 68, 83], 31) rfl) (by omega) (by omega) (by rw [s1_10]; rfl) (by decide) ?_
    refine x_aload_n (dtk dt_X12_truth 10 (46, .aload_n 0, 1) rfl) rfl ?_
    refine x_iload_n (dtk dt_X12_truth 11 (47, .iload_n 1, 1) rfl) rfl ?_
    refine kc_X12_209 rfl (dtk dt_X12_truth 12 (48, .invokevirtual 209, 3) rfl) (c_X12_isLattice (G := G)  hA) rfl rfl (wk_36 hA.wf) (fitR (by decide) (by decide)) (Nat.le_of_ble_eq_true rfl) (pqK ?_)
    refine x_if_eqB (tgt := 67) (dtk dt_X12_truth 13 (51, .ifCond .eq 16, 3) rfl) (by decide) (fun c51 => ?_) (fun c51 => ?_)
    · skip
      refine x_iconst (v := 0) ⟨by decide, by decide⟩ (dtk dt_X12_truth 21 (67, .iconst 0, 1) rfl) ?_
      exact ru_i (dtk dt_X12_truth 22 (68, .ireturn, 1) rfl) rfl (by unfold truR; simp_all [B]) sd.rf hT
    · skip
      refine x_aload_n (dtk dt_X12_truth 14 (54, .aload_n 0, 1) rfl) rfl ?_
      refine x_iload_n (dtk dt_X12_truth 15 (55, .iload_n 1, 1) rfl) rfl ?_
      refine kc_X12_212 rfl (dtk dt_X12_truth 16 (56, .invokevirtual 212, 3) rfl) (c_X12_uneven0 (G := G)  hA c51) rfl rfl (wk_36 hA.wf) (fitR (by decide) (by decide)) (Nat.le_of_ble_eq_true rfl) (pqK ?_)
      refine x_iconst (v := -1) ⟨by decide, by decide⟩ (dtk dt_X12_truth 17 (59, .iconst (-1), 1) rfl) ?_
      refine x_icmp_ne (tgt := 67) (dtk dt_X12_truth 18 (60, .if_icmp .ne 7, 3) rfl) (by decide) (fun c60 => ?_) (fun c60 => ?_)
      · skip
        refine x_iconst (v := 0) ⟨by decide, by decide⟩ (dtk dt_X12_truth 21 (67, .iconst 0, 1) rfl) ?_
        exact ru_i (dtk dt_X12_truth 22 (68, .ireturn, 1) rfl) rfl (by unfold truR; simp_all [B]) sd.rf hT
      · skip
        refine x_iconst (v := 1) ⟨by decide, by decide⟩ (dtk dt_X12_truth 19 (63, .iconst 1, 1) rfl) ?_
        refine x_goto (tgt := 68) (dtk dt_X12_truth 20 (64, .goto 4, 3) rfl) (by decide) ?_
        exact ru_i (dtk dt_X12_truth 22 (68, .ireturn, 1) rfl) rfl (by unfold truR; simp_all [B]) sd.rf hT
  by_cases s1_11 : w = 11
  · skip
    refine x_tsIn (tgt := 69) (off := 68) (dtk dt_X12_truth 1 (1, .tableswitch 101 9 12 #[31, 45, 68, 83], 31) rfl) (by omega) (by omega) (by rw [s1_11]; rfl) (by decide) ?_
    refine x_aload_n (dtk dt_X12_truth 23 (69, .aload_n 0, 1) rfl) rfl ?_
    refine x_iload_n (dtk dt_X12_truth 24 (70, .iload_n 1, 1) rfl) rfl ?_
    refine kc_X12_243 rfl (dtk dt_X12_truth 25 (71, .invokevirtual 243, 3) rfl) (c_X12_bent (G := G)  hm) rfl rfl (wk_36 hA.wf) (fitR (by decide) (by decide)) (Nat.le_of_ble_eq_true rfl) (pqK ?_)
    rw [if_pos ho]
    refine x_iconst (v := -1) ⟨by decide, by decide⟩ (dtk dt_X12_truth 26 (74, .iconst (-1), 1) rfl) ?_
    refine x_icmp_ne (tgt := 82) (dtk dt_X12_truth 27 (75, .if_icmp .ne 7, 3) rfl) (by decide) (fun c75 => ?_) (fun c75 => ?_)
    · skip
      refine x_iconst (v := 0) ⟨by decide, by decide⟩ (dtk dt_X12_truth 30 (82, .iconst 0, 1) rfl) ?_
      exact ru_i (dtk dt_X12_truth 31 (83, .ireturn, 1) rfl) rfl (by unfold truR; simp_all [B]) sd.rf hT
    · skip
      refine x_iconst (v := 1) ⟨by decide, by decide⟩ (dtk dt_X12_truth 28 (78, .iconst 1, 1) rfl) ?_
      refine x_goto (tgt := 83) (dtk dt_X12_truth 29 (79, .goto 4, 3) rfl) (by decide) ?_
      exact ru_i (dtk dt_X12_truth 31 (83, .ireturn, 1) rfl) rfl (by unfold truR; simp_all [B]) sd.rf hT
  by_cases s1_12 : w = 12
  · skip
    refine x_tsIn (tgt := 84) (off := 83) (dtk dt_X12_truth 1 (1, .tableswitch 101 9 12 #[31, 45, 68, 83], 31) rfl) (by omega) (by omega) (by rw [s1_12]; rfl) (by decide) ?_
    refine x_aload_n (dtk dt_X12_truth 32 (84, .aload_n 0, 1) rfl) rfl ?_
    refine x_iload_n (dtk dt_X12_truth 33 (85, .iload_n 1, 1) rfl) rfl ?_
    refine kc_X12_199 rfl (dtk dt_X12_truth 34 (86, .invokevirtual 199, 3) rfl) (c_X12_findTwo (G := G)  hA (by omega) (by omega)) rfl rfl (wk_36 hA.wf) (fitR (by decide) (by decide)) (Nat.le_of_ble_eq_true rfl) (uqK (fun M86_1 hs86_1 hE86_1 => ?_))
    have hE := hE86_1
    have hs0 := hs86_1
    refine x_aload_n (dtk dt_X12_truth 35 (89, .aload_n 0, 1) rfl) rfl ?_
    refine fg_X12_196 rfl (dtk dt_X12_truth 36 (90, .getfield 196, 3) rfl) (wk_36 hA.wf) hE.2.2.1 ?_
    refine x_if_eqB (tgt := 100) (dtk dt_X12_truth 37 (93, .ifCond .eq 7, 3) rfl) (by decide) (fun c93 => ?_) (fun c93 => ?_)
    · skip
      refine x_iconst (v := 0) ⟨by decide, by decide⟩ (dtk dt_X12_truth 40 (100, .iconst 0, 1) rfl) ?_
      exact ru_i (dtk dt_X12_truth 41 (101, .ireturn, 1) rfl) rfl (by unfold truR; simp_all [B]) hs86_1 (TW.of hs0 ho hE)
    · skip
      refine x_iconst (v := 1) ⟨by decide, by decide⟩ (dtk dt_X12_truth 38 (96, .iconst 1, 1) rfl) ?_
      refine x_goto (tgt := 101) (dtk dt_X12_truth 39 (97, .goto 4, 3) rfl) (by decide) ?_
      exact ru_i (dtk dt_X12_truth 41 (101, .ireturn, 1) rfl) rfl (by unfold truR; simp_all [B]) hs86_1 (TW.of hs0 ho hE)
  refine x_tsOut (tgt := 102) (dtk dt_X12_truth 1 (1, .tableswitch 101 9 12 #[31, 45, 68, 83], 31) rfl) (by omega) (by decide) ?_
  refine x_iconst (v := -1) ⟨by decide, by decide⟩ (dtk dt_X12_truth 42 (102, .iconst (-1), 1) rfl) ?_
  exact ru_i (dtk dt_X12_truth 43 (103, .ireturn, 1) rfl) rfl (by unfold truR; simp_all [B]) sd.rf hT
set_option maxRecDepth 100000 in
set_option maxHeartbeats 4000000 in
theorem c_X12_told {G : GG} {n : Nat} {K : KK} {M : MM} {o w : Int} (hm : MO K M) (hP : isOr M o = true → PO (M 38 o) (dM M o)) (hT : TW M) : MC G mi_X12_told 7 0 0 [(1, 36), (0, o), (0, w)] n K M (UQ sd (some (0, if isOr M o then toldR (M 37 o) (M 38 o) (dM M o) w else -1)) n K M (TW)) := by
  refine MC.intro (lc := [(0, (1, 36)), (1, (0, o)), (2, (0, w))]) (by decide) rfl (by simp [Nat.ble]) (Nat.le_of_ble_eq_true rfl) rfl (fun hMR => ?_)
  refine x_aload_n (dtk dt_X12_told 0 (0, .aload_n 0, 1) rfl) rfl ?_
  refine x_iload_n (dtk dt_X12_told 1 (1, .iload_n 1, 1) rfl) rfl ?_
  refine kc_X12_78 rfl (dtk dt_X12_told 2 (2, .invokevirtual 78, 3) rfl) (c_X12_isOrder (G := G)  hm) rfl rfl (wk_36 hm.1) (fitR (by decide) (by decide)) (Nat.le_of_ble_eq_true rfl) (pqK ?_)
  refine x_if_neB (tgt := 10) (dtk dt_X12_told 3 (5, .ifCond .ne 5, 3) rfl) (by decide) (fun c5 => ?_) (fun c5 => ?_)
  · skip
    have ho := isOr_of hm c5
    have hA : AT K M o (M 38 o) (dM M o) := ⟨hm, ho, rfl, rfl⟩
    have hsz := hA.ok.1
    refine x_iload_n (dtk dt_X12_told 6 (10, .iload_n 2, 1) rfl) rfl ?_
    by_cases s11_0 : w = 0
    · skip
      refine x_tsIn (tgt := 60) (off := 49) (dtk dt_X12_told 7 (11, .tableswitch 108 0 8 #[49, 56, 63, 69, 75, 81, 90, 96, 102], 49) rfl) (by omega) (by omega) (by rw [s11_0]; rfl) (by decide) ?_
      refine x_aload_n (dtk dt_X12_told 8 (60, .aload_n 0, 1) rfl) rfl ?_
      refine fg_X12_7 rfl (dtk dt_X12_told 9 (61, .getfield 7, 3) rfl) (wk_36 hA.wf) (wm_36_1 hA.wf) ?_
      refine x_iload_n (dtk dt_X12_told 10 (64, .iload_n 1, 1) rfl) rfl ?_
      refine x_iald (dtk dt_X12_told 11 (65, .iaload, 1) rfl) (wk_37 hA.wf) ⟨by omega, by omega⟩ ?_
      exact ru_i (dtk dt_X12_told 12 (66, .ireturn, 1) rfl) rfl (by rw [if_pos c5]; unfold toldR; simp_all) sd.rf hT
    by_cases s11_1 : w = 1
    · skip
      refine x_tsIn (tgt := 67) (off := 56) (dtk dt_X12_told 7 (11, .tableswitch 108 0 8 #[49, 56, 63, 69, 75, 81, 90, 96, 102], 49) rfl) (by omega) (by omega) (by rw [s11_1]; rfl) (by decide) ?_
      refine x_aload_n (dtk dt_X12_told 13 (67, .aload_n 0, 1) rfl) rfl ?_
      refine fg_X12_13 rfl (dtk dt_X12_told 14 (68, .getfield 13, 3) rfl) (wk_36 hA.wf) (wm_36_2 hA.wf) ?_
      refine x_iload_n (dtk dt_X12_told 15 (71, .iload_n 1, 1) rfl) rfl ?_
      refine x_iald (dtk dt_X12_told 16 (72, .iaload, 1) rfl) (wk_38 hA.wf) ⟨by omega, by omega⟩ ?_
      exact ru_i (dtk dt_X12_told 17 (73, .ireturn, 1) rfl) rfl (by rw [if_pos c5]; unfold toldR; simp_all) sd.rf hT
    by_cases s11_2 : w = 2
    · skip
      refine x_tsIn (tgt := 74) (off := 63) (dtk dt_X12_told 7 (11, .tableswitch 108 0 8 #[49, 56, 63, 69, 75, 81, 90, 96, 102], 49) rfl) (by omega) (by omega) (by rw [s11_2]; rfl) (by decide) ?_
      refine x_aload_n (dtk dt_X12_told 18 (74, .aload_n 0, 1) rfl) rfl ?_
      refine x_iload_n (dtk dt_X12_told 19 (75, .iload_n 1, 1) rfl) rfl ?_
      refine kc_X12_228 rfl (dtk dt_X12_told 20 (76, .invokevirtual 228, 3) rfl) (c_X12_pairsOf (G := G)  hA) rfl rfl (wk_36 hA.wf) (fitR (by decide) (by decide)) (Nat.le_of_ble_eq_true rfl) (pqK ?_)
      exact ru_i (dtk dt_X12_told 21 (79, .ireturn, 1) rfl) rfl (by rw [if_pos c5]; unfold toldR; simp_all) sd.rf hT
    by_cases s11_3 : w = 3
    · skip
      refine x_tsIn (tgt := 80) (off := 69) (dtk dt_X12_told 7 (11, .tableswitch 108 0 8 #[49, 56, 63, 69, 75, 81, 90, 96, 102], 49) rfl) (by omega) (by omega) (by rw [s11_3]; rfl) (by decide) ?_
      refine x_aload_n (dtk dt_X12_told 22 (80, .aload_n 0, 1) rfl) rfl ?_
      refine x_iload_n (dtk dt_X12_told 23 (81, .iload_n 1, 1) rfl) rfl ?_
      refine kc_X12_231 rfl (dtk dt_X12_told 24 (82, .invokevirtual 231, 3) rfl) (c_X12_nextsOf (G := G)  hA) rfl rfl (wk_36 hA.wf) (fitR (by decide) (by decide)) (Nat.le_of_ble_eq_true rfl) (pqK ?_)
      exact ru_i (dtk dt_X12_told 25 (85, .ireturn, 1) rfl) rfl (by rw [if_pos c5]; unfold toldR; simp_all) sd.rf hT
    by_cases s11_4 : w = 4
    · skip
      refine x_tsIn (tgt := 86) (off := 75) (dtk dt_X12_told 7 (11, .tableswitch 108 0 8 #[49, 56, 63, 69, 75, 81, 90, 96, 102], 49) rfl) (by omega) (by omega) (by rw [s11_4]; rfl) (by decide) ?_
      refine x_aload_n (dtk dt_X12_told 26 (86, .aload_n 0, 1) rfl) rfl ?_
      refine x_iload_n (dtk dt_X12_told 27 (87, .iload_n 1, 1) rfl) rfl ?_
      refine kc_X12_127 rfl (dtk dt_X12_told 28 (88, .invokevirtual 127, 3) rfl) (c_X12_lowSets (G := G)  hA) rfl rfl (wk_36 hA.wf) (fitR (by decide) (by decide)) (Nat.le_of_ble_eq_true rfl) (pqK ?_)
      exact ru_i (dtk dt_X12_told 29 (91, .ireturn, 1) rfl) rfl (by rw [if_pos c5]; unfold toldR; simp_all) sd.rf hT
    by_cases s11_5 : w = 5
    · skip
      refine x_tsIn (tgt := 92) (off := 81) (dtk dt_X12_told 7 (11, .tableswitch 108 0 8 #[49, 56, 63, 69, 75, 81, 90, 96, 102], 49) rfl) (by omega) (by omega) (by rw [s11_5]; rfl) (by decide) ?_
      refine x_aload_n (dtk dt_X12_told 30 (92, .aload_n 0, 1) rfl) rfl ?_
      refine x_iload_n (dtk dt_X12_told 31 (93, .iload_n 1, 1) rfl) rfl ?_
      refine kc_X12_176 rfl (dtk dt_X12_told 32 (94, .invokevirtual 176, 3) rfl) (c_X12_widest0 (G := G)  hA) rfl rfl (wk_36 hA.wf) (fitR (by decide) (by decide)) (Nat.le_of_ble_eq_true rfl) (pqK ?_)
      refine kc_X12_133 rfl (dtk dt_X12_told 33 (97, .invokestatic 133, 3) rfl) (c_X12_bits (G := G)  (nn10 (wide_b hsz _ (Int.le_refl _)))) rfl rfl (fitR (by decide) (by decide)) (Nat.le_of_ble_eq_true rfl) (pqK ?_)
      change MW G _ _ _ _ _ _ ((0, cnt (wide (M 38 o) (dM M o))) :: _) _ _ _
      exact ru_i (dtk dt_X12_told 34 (100, .ireturn, 1) rfl) rfl (by rw [if_pos c5]; unfold toldR; simp_all) sd.rf hT
    by_cases s11_6 : w = 6
    · skip
      refine x_tsIn (tgt := 101) (off := 90) (dtk dt_X12_told 7 (11, .tableswitch 108 0 8 #[49, 56, 63, 69, 75, 81, 90, 96, 102], 49) rfl) (by omega) (by omega) (by rw [s11_6]; rfl) (by decide) ?_
      refine x_aload_n (dtk dt_X12_told 35 (101, .aload_n 0, 1) rfl) rfl ?_
      refine x_iload_n (dtk dt_X12_told 36 (102, .iload_n 1, 1) rfl) rfl ?_
      refine kc_X12_234 rfl (dtk dt_X12_told 37 (103, .invokevirtual 234, 3) rfl) (c_X12_height (G := G)  hA) rfl rfl (wk_36 hA.wf) (fitR (by decide) (by decide)) (Nat.le_of_ble_eq_true rfl) (pqK ?_)
      exact ru_i (dtk dt_X12_told 38 (106, .ireturn, 1) rfl) rfl (by rw [if_pos c5]; unfold toldR; simp_all) sd.rf hT
    by_cases s11_7 : w = 7
    · skip
      refine x_tsIn (tgt := 107) (off := 96) (dtk dt_X12_told 7 (11, .tableswitch 108 0 8 #[49, 56, 63, 69, 75, 81, 90, 96, 102], 49) rfl) (by omega) (by omega) (by rw [s11_7]; rfl) (by decide) ?_
      refine x_aload_n (dtk dt_X12_told 39 (107, .aload_n 0, 1) rfl) rfl ?_
      refine x_iload_n (dtk dt_X12_told 40 (108, .iload_n 1, 1) rfl) rfl ?_
      refine kc_X12_149 rfl (dtk dt_X12_told 41 (109, .invokevirtual 149, 3) rfl) (c_X12_count0 (G := G)  hA) rfl rfl (wk_36 hA.wf) (fitR (by decide) (by decide)) (Nat.le_of_ble_eq_true rfl) (sqK (fun M109_1 hs109_1 hE109_1 => ?_))
      exact ru_i (dtk dt_X12_told 42 (112, .ireturn, 1) rfl) rfl (by rw [if_pos c5]; unfold toldR; simp_all) (sc.to_sd hs109_1) (hT.off_sc hs109_1)
    by_cases s11_8 : w = 8
    · skip
      refine x_tsIn (tgt := 113) (off := 102) (dtk dt_X12_told 7 (11, .tableswitch 108 0 8 #[49, 56, 63, 69, 75, 81, 90, 96, 102], 49) rfl) (by omega) (by omega) (by rw [s11_8]; rfl) (by decide) ?_
      refine x_aload_n (dtk dt_X12_told 43 (113, .aload_n 0, 1) rfl) rfl ?_
      refine x_iload_n (dtk dt_X12_told 44 (114, .iload_n 1, 1) rfl) rfl ?_
      refine kc_X12_237 rfl (dtk dt_X12_told 45 (115, .invokevirtual 237, 3) rfl) (c_X12_leastJumps (G := G)  hA) rfl rfl (wk_36 hA.wf) (fitR (by decide) (by decide)) (Nat.le_of_ble_eq_true rfl) (sqK (fun M115_1 hs115_1 hE115_1 => ?_))
      exact ru_i (dtk dt_X12_told 46 (118, .ireturn, 1) rfl) rfl (by rw [if_pos c5]; unfold toldR; simp_all) (sc.to_sd hs115_1) (hT.off_sc hs115_1)
    refine x_tsOut (tgt := 119) (dtk dt_X12_told 7 (11, .tableswitch 108 0 8 #[49, 56, 63, 69, 75, 81, 90, 96, 102], 49) rfl) (by omega) (by decide) ?_
    refine x_aload_n (dtk dt_X12_told 47 (119, .aload_n 0, 1) rfl) rfl ?_
    refine x_iload_n (dtk dt_X12_told 48 (120, .iload_n 1, 1) rfl) rfl ?_
    refine x_iload_n (dtk dt_X12_told 49 (121, .iload_n 2, 1) rfl) rfl ?_
    refine kc_X12_240 rfl (dtk dt_X12_told 50 (122, .invokevirtual 240, 3) rfl) (c_X12_truth (G := G)  hm c5 (hP c5) (by omega)) rfl rfl (wk_36 hA.wf) (fitR (by decide) (by decide)) (Nat.le_of_ble_eq_true rfl) (uqK (fun M122_1 hs122_1 hE122_1 => ?_))
    have hE := hE122_1
    exact ru_i (dtk dt_X12_told 51 (125, .ireturn, 1) rfl) rfl (by rw [if_pos c5]; unfold toldR; rw [if_neg s11_0, if_neg s11_1, if_neg s11_2, if_neg s11_3, if_neg s11_4, if_neg s11_5, if_neg s11_6, if_neg s11_7, if_neg s11_8]) hs122_1 hE
  · skip
    refine x_iconst (v := -1) ⟨by decide, by decide⟩ (dtk dt_X12_told 4 (8, .iconst (-1), 1) rfl) ?_
    exact ru_i (dtk dt_X12_told 5 (9, .ireturn, 1) rfl) rfl (by rw [c5]; rfl) sd.rf hT
