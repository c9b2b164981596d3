/-! ===== the model: two rows ===== -/
set_option maxRecDepth 100000 in
set_option maxHeartbeats 4000000 in
theorem c_X12_fitsTwo {G : GG} {n : Nat} {K : KK} {M : MM} {o k c : Int} {m : Int} {d : Int → Int} (hA : AT K M o m d) (hk : 0 ≤ k ∧ k < 10) (hc : 0 ≤ c ∧ c < 10) (hx : ∀ i, 0 ≤ i → i < k → 0 ≤ M 51 i ∧ M 51 i < 10) : MC G mi_X12_fitsTwo 4 0 0 [(1, 36), (0, o), (0, k), (0, c)] n K M (PQ (some (0, B (twP d (M 51) k c))) n K (M)) := by
  refine MC.intro (lc := [(0, (1, 36)), (1, (0, o)), (2, (0, k)), (3, (0, c))]) (by decide) rfl (by simp [Nat.ble]) (Nat.le_of_ble_eq_true rfl) rfl (fun hMR => ?_)
  have ho := hA.2.1
  have hsz := hA.ok.1
  refine x_iconst (v := 0) ⟨by decide, by decide⟩ (dtk dt_X12_fitsTwo 0 (0, .iconst 0, 1) rfl) ?_
  refine x_istore (dtk dt_X12_fitsTwo 1 (1, .istore 4, 2) rfl) (by decide) ?_
  refine x_iconst (v := 0) ⟨by decide, by decide⟩ (dtk dt_X12_fitsTwo 2 (3, .iconst 0, 1) rfl) ?_
  refine x_istore (dtk dt_X12_fitsTwo 3 (4, .istore 5, 2) rfl) (by decide) ?_
  have L6 : ∀ (fu : Nat) (v4 : Int) (v5 : Int), (0 ≤ v5 ∧ v5 ≤ k) → (v4 = hadS (M 51) v5) → (k - v5).toNat = fu → MW G mi_X12_fitsTwo (rmd 4 0 0) (MZ G (PQ (some (0, B (twP d (M 51) k c))) n K (M)) 0 0) (0, 0) 6 [(0, (1, 36)), (1, (0, o)), (2, (0, k)), (3, (0, c)), (4, (0, v4)), (5, (0, v5))] [] n K (M) := by
    intro fu
    induction fu using Nat.strongRecOn with
    | ind fu ih6 =>
      intro v4 v5 h1 h2 hk6
      refine x_iload (dtk dt_X12_fitsTwo 4 (6, .iload 5, 2) rfl) rfl ?_
      refine x_iload_n (dtk dt_X12_fitsTwo 5 (8, .iload_n 2, 1) rfl) rfl ?_
      refine x_icmp_ge (tgt := 32) (dtk dt_X12_fitsTwo 6 (9, .if_icmp .ge 23, 3) rfl) (by decide) (fun c9 => ?_) (fun c9 => ?_)
      · skip
        have hhb := hadS_b (x := M 51) k.toNat (fun i h0 h1 => hx i h0 (by omega))
        rw [show ((k.toNat : Nat) : Int) = k by omega] at hhb
        rw [show v4 = hadS (M 51) k by rw [h2, show v5 = k by omega]]
        refine x_aload_n (dtk dt_X12_fitsTwo 18 (32, .aload_n 0, 1) rfl) rfl ?_
        refine x_iload_n (dtk dt_X12_fitsTwo 19 (33, .iload_n 1, 1) rfl) rfl ?_
        refine x_iload (dtk dt_X12_fitsTwo 20 (34, .iload 4, 2) rfl) rfl ?_
        refine x_iload_n (dtk dt_X12_fitsTwo 21 (36, .iload_n 3, 1) rfl) rfl ?_
        refine x_iconst (v := 0) ⟨by decide, by decide⟩ (dtk dt_X12_fitsTwo 22 (37, .iconst 0, 1) rfl) ?_
        refine x_iconst (v := 0) ⟨by decide, by decide⟩ (dtk dt_X12_fitsTwo 23 (38, .iconst 0, 1) rfl) ?_
        refine kc_X12_142 rfl (dtk dt_X12_fitsTwo 24 (39, .invokevirtual 142, 3) rfl) (c_X12_may (G := G)  hA (nn10 hhb) (by omega) (by omega)) rfl rfl (wk_36 hA.wf) (fitR (by decide) (by decide)) (Nat.le_of_ble_eq_true rfl) (pqK ?_)
        change MW G _ _ _ _ _ _ ((0, B (can d (hadS (M 51) k) c)) :: _) _ _ _
        refine x_if_neB (tgt := 47) (dtk dt_X12_fitsTwo 25 (42, .ifCond .ne 5, 3) rfl) (by decide) (fun c42 => ?_) (fun c42 => ?_)
        · skip
          refine x_iconst (v := 0) ⟨by decide, by decide⟩ (dtk dt_X12_fitsTwo 28 (47, .iconst 0, 1) rfl) ?_
          refine x_istore (dtk dt_X12_fitsTwo 29 (48, .istore 5, 2) rfl) (by decide) ?_
          have L50 : ∀ (fu : Nat) (v5 : Int), (0 ≤ v5 ∧ v5 ≤ k) → (allB v5 (fun i => allB k (fun j => decide (j ≤ i) || !(rel d (M 51 i) c && (apr d (M 51 i) (M 51 j) && apr d (M 51 j) c)))) = true) → (k - v5).toNat = fu → MW G mi_X12_fitsTwo (rmd 4 0 0) (MZ G (PQ (some (0, B (twP d (M 51) k c))) n K (M)) 0 0) (0, 0) 50 [(0, (1, 36)), (1, (0, o)), (2, (0, k)), (3, (0, c)), (4, (0, hadS (M 51) k)), (5, (0, v5))] [] n K (M) := by
            intro fu
            induction fu using Nat.strongRecOn with
            | ind fu ih50 =>
              intro v5 g1 g2 hk50
              refine x_iload (dtk dt_X12_fitsTwo 30 (50, .iload 5, 2) rfl) rfl ?_
              refine x_iload_n (dtk dt_X12_fitsTwo 31 (52, .iload_n 2, 1) rfl) rfl ?_
              refine x_icmp_ge (tgt := 136) (dtk dt_X12_fitsTwo 32 (53, .if_icmp .ge 83, 3) rfl) (by decide) (fun c53 => ?_) (fun c53 => ?_)
              · skip
                refine x_iconst (v := 1) ⟨by decide, by decide⟩ (dtk dt_X12_fitsTwo 76 (136, .iconst 1, 1) rfl) ?_
                exact r_b (b := true) (dtk dt_X12_fitsTwo 77 (137, .ireturn, 1) rfl) rfl (by unfold twP; rw [show v5 = k by omega] at g2; rw [c42, g2]; rfl) rfl
              · skip
                have hx5 := hx v5 (by omega) (by omega)
                refine x_iload (dtk dt_X12_fitsTwo 33 (56, .iload 5, 2) rfl) rfl ?_
                refine x_iconst (v := 1) ⟨by decide, by decide⟩ (dtk dt_X12_fitsTwo 34 (58, .iconst 1, 1) rfl) ?_
                refine y_iadd (dtk dt_X12_fitsTwo 35 (59, .iadd, 1) rfl) ⟨by omega, by omega⟩ ?_
                refine x_istore (dtk dt_X12_fitsTwo 36 (60, .istore 6, 2) rfl) (by decide) ?_
                have L62 : ∀ (fu : Nat) (v6 : Int), (v5 < v6 ∧ v6 ≤ k) → (allB v6 (fun j => decide (j ≤ v5) || !(rel d (M 51 v5) c && (apr d (M 51 v5) (M 51 j) && apr d (M 51 j) c))) = true) → (k - v6).toNat = fu → MW G mi_X12_fitsTwo (rmd 4 0 0) (MZ G (PQ (some (0, B (twP d (M 51) k c))) n K (M)) 0 0) (0, 0) 62 [(0, (1, 36)), (1, (0, o)), (2, (0, k)), (3, (0, c)), (4, (0, hadS (M 51) k)), (5, (0, v5)), (6, (0, v6))] [] n K (M) := by
                  intro fu
                  induction fu using Nat.strongRecOn with
                  | ind fu ih62 =>
                    intro v6 g3 g4 hk62
                    refine x_iload (dtk dt_X12_fitsTwo 37 (62, .iload 6, 2) rfl) rfl ?_
                    refine x_iload_n (dtk dt_X12_fitsTwo 38 (64, .iload_n 2, 1) rfl) rfl ?_
                    refine x_icmp_ge (tgt := 130) (dtk dt_X12_fitsTwo 39 (65, .if_icmp .ge 65, 3) rfl) (by decide) (fun c65 => ?_) (fun c65 => ?_)
                    · skip
                      refine y_iinc (dtk dt_X12_fitsTwo 74 (130, .iinc 5 1, 3) rfl) rfl (by decide) ⟨by omega, by omega⟩ ?_
                      refine x_goto (tgt := 50) (dtk dt_X12_fitsTwo 75 (133, .goto (-83), 3) rfl) (by decide) ?_
                      refine MW.sub [1, 2, 3, 4, 5, 0] rfl ?_
                      exact ih50 _ (by omega) _ (by omega) (by rw [allB_s g1.1, g2, Bool.true_and]; first | (rw [show v6 = k by omega] at g4; exact g4) | (exact allB_iff.mpr (fun j _ _ => by simp [c81]))) rfl
                    · skip
                      have hx6 := hx v6 (by omega) (by omega)
                      refine x_aload_n (dtk dt_X12_fitsTwo 40 (68, .aload_n 0, 1) rfl) rfl ?_
                      refine x_iload_n (dtk dt_X12_fitsTwo 41 (69, .iload_n 1, 1) rfl) rfl ?_
                      refine x_aload_n (dtk dt_X12_fitsTwo 42 (70, .aload_n 0, 1) rfl) rfl ?_
                      refine fg_X12_56 rfl (dtk dt_X12_fitsTwo 43 (71, .getfield 56, 3) rfl) (wk_36 hA.wf) (wm_36_20 hA.wf) ?_
                      refine x_iload (dtk dt_X12_fitsTwo 44 (74, .iload 5, 2) rfl) rfl ?_
                      refine x_iald (dtk dt_X12_fitsTwo 45 (76, .iaload, 1) rfl) (wk_51 hA.wf) ⟨by omega, by omega⟩ ?_
                      refine x_iload_n (dtk dt_X12_fitsTwo 46 (77, .iload_n 3, 1) rfl) rfl ?_
                      refine kc_X12_86 rfl (dtk dt_X12_fitsTwo 47 (78, .invokevirtual 86, 3) rfl) (c_X12_isBelow (G := G)  hA (by omega) (by omega)) rfl rfl (wk_36 hA.wf) (fitR (by decide) (by decide)) (Nat.le_of_ble_eq_true rfl) (pqK ?_)
                      refine x_if_eqB (tgt := 130) (dtk dt_X12_fitsTwo 48 (81, .ifCond .eq 49, 3) rfl) (by decide) (fun c81 => ?_) (fun c81 => ?_)
                      · skip
                        refine y_iinc (dtk dt_X12_fitsTwo 74 (130, .iinc 5 1, 3) rfl) rfl (by decide) ⟨by omega, by omega⟩ ?_
                        refine x_goto (tgt := 50) (dtk dt_X12_fitsTwo 75 (133, .goto (-83), 3) rfl) (by decide) ?_
                        refine MW.sub [1, 2, 3, 4, 5, 0] rfl ?_
                        exact ih50 _ (by omega) _ (by omega) (by rw [allB_s g1.1, g2, Bool.true_and]; first | (rw [show v6 = k by omega] at g4; exact g4) | (exact allB_iff.mpr (fun j _ _ => by simp [c81]))) rfl
                      · skip
                        refine x_aload_n (dtk dt_X12_fitsTwo 49 (84, .aload_n 0, 1) rfl) rfl ?_
                        refine x_iload_n (dtk dt_X12_fitsTwo 50 (85, .iload_n 1, 1) rfl) rfl ?_
                        refine x_aload_n (dtk dt_X12_fitsTwo 51 (86, .aload_n 0, 1) rfl) rfl ?_
                        refine fg_X12_56 rfl (dtk dt_X12_fitsTwo 52 (87, .getfield 56, 3) rfl) (wk_36 hA.wf) (wm_36_20 hA.wf) ?_
                        refine x_iload (dtk dt_X12_fitsTwo 53 (90, .iload 5, 2) rfl) rfl ?_
                        refine x_iald (dtk dt_X12_fitsTwo 54 (92, .iaload, 1) rfl) (wk_51 hA.wf) ⟨by omega, by omega⟩ ?_
                        refine x_aload_n (dtk dt_X12_fitsTwo 55 (93, .aload_n 0, 1) rfl) rfl ?_
                        refine fg_X12_56 rfl (dtk dt_X12_fitsTwo 56 (94, .getfield 56, 3) rfl) (wk_36 hA.wf) (wm_36_20 hA.wf) ?_
                        refine x_iload (dtk dt_X12_fitsTwo 57 (97, .iload 6, 2) rfl) rfl ?_
                        refine x_iald (dtk dt_X12_fitsTwo 58 (99, .iaload, 1) rfl) (wk_51 hA.wf) ⟨by omega, by omega⟩ ?_
                        refine kc_X12_157 rfl (dtk dt_X12_fitsTwo 59 (100, .invokevirtual 157, 3) rfl) (c_X12_isApart (G := G)  hA (by omega) (by omega)) rfl rfl (wk_36 hA.wf) (fitR (by decide) (by decide)) (Nat.le_of_ble_eq_true rfl) (pqK ?_)
                        refine x_if_eqB (tgt := 124) (dtk dt_X12_fitsTwo 60 (103, .ifCond .eq 21, 3) rfl) (by decide) (fun c103 => ?_) (fun c103 => ?_)
                        · skip
                          refine y_iinc (dtk dt_X12_fitsTwo 72 (124, .iinc 6 1, 3) rfl) rfl (by decide) ⟨by omega, by omega⟩ ?_
                          refine x_goto (tgt := 62) (dtk dt_X12_fitsTwo 73 (127, .goto (-65), 3) rfl) (by decide) ?_
                          refine MW.sub [1, 2, 3, 4, 5, 6, 0] rfl ?_
                          exact ih62 _ (by omega) _ (by omega) (by clear ih6 ih50 ih62; rw [allB_s (by omega), g4]; simp_all) rfl
                        · skip
                          refine x_aload_n (dtk dt_X12_fitsTwo 61 (106, .aload_n 0, 1) rfl) rfl ?_
                          refine x_iload_n (dtk dt_X12_fitsTwo 62 (107, .iload_n 1, 1) rfl) rfl ?_
                          refine x_aload_n (dtk dt_X12_fitsTwo 63 (108, .aload_n 0, 1) rfl) rfl ?_
                          refine fg_X12_56 rfl (dtk dt_X12_fitsTwo 64 (109, .getfield 56, 3) rfl) (wk_36 hA.wf) (wm_36_20 hA.wf) ?_
                          refine x_iload (dtk dt_X12_fitsTwo 65 (112, .iload 6, 2) rfl) rfl ?_
                          refine x_iald (dtk dt_X12_fitsTwo 66 (114, .iaload, 1) rfl) (wk_51 hA.wf) ⟨by omega, by omega⟩ ?_
                          refine x_iload_n (dtk dt_X12_fitsTwo 67 (115, .iload_n 3, 1) rfl) rfl ?_
                          refine kc_X12_157 rfl (dtk dt_X12_fitsTwo 68 (116, .invokevirtual 157, 3) rfl) (c_X12_isApart (G := G)  hA (by omega) (by omega)) rfl rfl (wk_36 hA.wf) (fitR (by decide) (by decide)) (Nat.le_of_ble_eq_true rfl) (pqK ?_)
                          refine x_if_eqB (tgt := 124) (dtk dt_X12_fitsTwo 69 (119, .ifCond .eq 5, 3) rfl) (by decide) (fun c119 => ?_) (fun c119 => ?_)
                          · skip
                            refine y_iinc (dtk dt_X12_fitsTwo 72 (124, .iinc 6 1, 3) rfl) rfl (by decide) ⟨by omega, by omega⟩ ?_
                            refine x_goto (tgt := 62) (dtk dt_X12_fitsTwo 73 (127, .goto (-65), 3) rfl) (by decide) ?_
                            refine MW.sub [1, 2, 3, 4, 5, 6, 0] rfl ?_
                            exact ih62 _ (by omega) _ (by omega) (by clear ih6 ih50 ih62; rw [allB_s (by omega), g4]; simp_all) rfl
                          · skip
                            refine x_iconst (v := 0) ⟨by decide, by decide⟩ (dtk dt_X12_fitsTwo 70 (122, .iconst 0, 1) rfl) ?_
                            exact r_b (b := false) (dtk dt_X12_fitsTwo 71 (123, .ireturn, 1) rfl) rfl (by symm; rw [Bool.eq_false_iff]; intro hq; unfold twP at hq; rw [Bool.and_eq_true, allB_iff] at hq; have hz := allB_iff.mp (hq.2 v5 g1.1 (by omega)) v6 (by omega) (by omega); rw [c81, c103, c119] at hz; simp at hz; omega) rfl
                refine MW.sub [1, 2, 3, 4, 5, 6, 0] rfl ?_
                exact L62 _ _ (by omega) (allB_iff.mpr (fun j _ _ => by simp; left; omega)) rfl
          refine MW.sub [1, 2, 3, 4, 5, 0] rfl ?_
          exact L50 _ _ (by omega) rfl rfl
        · skip
          refine x_iconst (v := 0) ⟨by decide, by decide⟩ (dtk dt_X12_fitsTwo 26 (45, .iconst 0, 1) rfl) ?_
          exact r_b (b := false) (dtk dt_X12_fitsTwo 27 (46, .ireturn, 1) rfl) rfl (by unfold twP; rw [c42]; rfl) rfl
      · skip
        have hx5 := hx v5 (by omega) (by omega)
        refine x_iload (dtk dt_X12_fitsTwo 7 (12, .iload 4, 2) rfl) rfl ?_
        refine x_iconst (v := 1) ⟨by decide, by decide⟩ (dtk dt_X12_fitsTwo 8 (14, .iconst 1, 1) rfl) ?_
        refine x_aload_n (dtk dt_X12_fitsTwo 9 (15, .aload_n 0, 1) rfl) rfl ?_
        refine fg_X12_56 rfl (dtk dt_X12_fitsTwo 10 (16, .getfield 56, 3) rfl) (wk_36 hA.wf) (wm_36_20 hA.wf) ?_
        refine x_iload (dtk dt_X12_fitsTwo 11 (19, .iload 5, 2) rfl) rfl ?_
        refine x_iald (dtk dt_X12_fitsTwo 12 (21, .iaload, 1) rfl) (wk_51 hA.wf) ⟨by omega, by omega⟩ ?_
        refine x_ishl (dtk dt_X12_fitsTwo 13 (22, .ishl, 1) rfl) ?_
        refine x_ior (dtk dt_X12_fitsTwo 14 (23, .ior, 1) rfl) ?_
        refine x_istore (dtk dt_X12_fitsTwo 15 (24, .istore 4, 2) rfl) (by decide) ?_
        refine y_iinc (dtk dt_X12_fitsTwo 16 (26, .iinc 5 1, 3) rfl) rfl (by decide) ⟨by omega, by omega⟩ ?_
        refine x_goto (tgt := 6) (dtk dt_X12_fitsTwo 17 (29, .goto (-23), 3) rfl) (by decide) ?_
        refine MW.sub [2, 3, 4, 5, 1, 0] rfl ?_
        exact ih6 _ (by omega) _ _ (by omega) (by rw [hadS_s h1.1, ← h2]; rfl) rfl
  refine MW.sub [2, 3, 4, 5, 1, 0] rfl ?_
  exact L6 _ _ _ (by omega) rfl rfl
set_option maxRecDepth 100000 in
set_option maxHeartbeats 4000000 in
theorem c_X12_findTwo {G : GG} {n : Nat} {K : KK} {M : MM} {o : Int} {m : Int} {d : Int → Int} (hA : AT K M o m d) (hP : PO m d) (hT : TW M) : MC G mi_X12_findTwo 5 0 0 [(1, 36), (0, o)] n K M (UQ sd none n K M (fun M' => M' 36 21 = 1 ∧ M' 36 22 = o ∧ M' 36 23 = B ((twR m d).isSome) ∧ ∀ z, twR m d = some z → ∀ i, 0 ≤ i → i < m → M' 52 i = z i ∧ M' 53 i = secV m d z i)) := by
  refine MC.intro (lc := [(0, (1, 36)), (1, (0, o))]) (by decide) rfl (by simp [Nat.ble]) (Nat.le_of_ble_eq_true rfl) rfl (fun hMR => ?_)
  have ho := hA.2.1
  have hsz := hA.ok.1
  have hp := p2_b hsz
  have J16_2 : (True) → MW G mi_X12_findTwo (rmd 5 0 0) (MZ G (UQ sd none n K M (fun M' => M' 36 21 = 1 ∧ M' 36 22 = o ∧ M' 36 23 = B ((twR m d).isSome) ∧ ∀ z, twR m d = some z → ∀ i, 0 ≤ i → i < m → M' 52 i = z i ∧ M' 53 i = secV m d z i)) 0 0) (0, 0) 16 [(0, (1, 36)), (1, (0, o))] [] n K (M) := by
    intro  hj0
    refine x_aload_n (dtk dt_X12_findTwo 8 (16, .aload_n 0, 1) rfl) rfl ?_
    refine x_iconst (v := 1) ⟨by decide, by decide⟩ (dtk dt_X12_findTwo 9 (17, .iconst 1, 1) rfl) ?_
    refine fp_X12_93 rfl (dtk dt_X12_findTwo 10 (18, .putfield 93, 3) rfl) (wk_36 hA.wf) (Or.inr rfl) ?_
    refine x_aload_n (dtk dt_X12_findTwo 11 (21, .aload_n 0, 1) rfl) rfl ?_
    refine x_iload_n (dtk dt_X12_findTwo 12 (22, .iload_n 1, 1) rfl) rfl ?_
    refine fp_X12_190 rfl (dtk dt_X12_findTwo 13 (23, .putfield 190, 3) rfl) (wk_36 hA.wf) ?_
    refine x_aload_n (dtk dt_X12_findTwo 14 (26, .aload_n 0, 1) rfl) rfl ?_
    refine fg_X12_13 rfl (dtk dt_X12_findTwo 15 (27, .getfield 13, 3) rfl) (wk_36 hA.wf) (wm_36_2 (hA.off_sd (sd.fd 36 22 rfl (sd.fd 36 21 rfl sd.rf))).wf) ?_
    refine x_iload_n (dtk dt_X12_findTwo 16 (30, .iload_n 1, 1) rfl) rfl ?_
    refine x_iald (dtk dt_X12_findTwo 17 (31, .iaload, 1) rfl) (wk_38 hA.wf) ⟨by omega, by omega⟩ ?_
    rw [(hA.off_sd (sd.fd 36 22 rfl (sd.fd 36 21 rfl sd.rf))).sz]
    refine x_istore_n (dtk dt_X12_findTwo 18 (32, .istore_n 2, 1) rfl) (by decide) ?_
    refine x_iconst (v := 0) ⟨by decide, by decide⟩ (dtk dt_X12_findTwo 19 (33, .iconst 0, 1) rfl) ?_
    refine x_istore_n (dtk dt_X12_findTwo 20 (34, .istore_n 3, 1) rfl) (by decide) ?_
    refine x_aload_n (dtk dt_X12_findTwo 21 (35, .aload_n 0, 1) rfl) rfl ?_
    refine fg_X12_56 rfl (dtk dt_X12_findTwo 22 (36, .getfield 56, 3) rfl) (wk_36 hA.wf) (wm_36_20 (hA.off_sd (sd.fd 36 22 rfl (sd.fd 36 21 rfl sd.rf))).wf) ?_
    refine x_iconst (v := 0) ⟨by decide, by decide⟩ (dtk dt_X12_findTwo 23 (39, .iconst 0, 1) rfl) ?_
    refine x_iconst (v := -1) ⟨by decide, by decide⟩ (dtk dt_X12_findTwo 24 (40, .iconst (-1), 1) rfl) ?_
    refine x_iast (dtk dt_X12_findTwo 25 (41, .iastore, 1) rfl) (wk_51 hA.wf) ⟨by omega, by omega⟩ ?_
    have L42 : ∀ (fu : Nat) (v3 : Int) (M1 : MM), (-1 ≤ v3 ∧ v3 ≤ m) → (sd M M1) → (∀ i, 0 ≤ i → i < v3 → 0 ≤ M1 51 i ∧ M1 51 i < m) → (0 ≤ v3 → -1 ≤ M1 51 v3 ∧ M1 51 v3 < m) → (bk (m) (m) (twP d) (M1 51) (v3 + 1).toNat = twR m d) → (M1 36 21 = 1 ∧ M1 36 22 = o) → mu (M1 51) (v3 + 1).toNat = fu → MW G mi_X12_findTwo (rmd 5 0 0) (MZ G (UQ sd none n K M (fun M' => M' 36 21 = 1 ∧ M' 36 22 = o ∧ M' 36 23 = B ((twR m d).isSome) ∧ ∀ z, twR m d = some z → ∀ i, 0 ≤ i → i < m → M' 52 i = z i ∧ M' 53 i = secV m d z i)) 0 0) (0, 0) 42 [(0, (1, 36)), (1, (0, o)), (2, (0, m)), (3, (0, v3))] [] n K (M1) := by
      intro fu
      induction fu using Nat.strongRecOn with
      | ind fu ih42 =>
        intro v3 M1 h1 hs1 hx hy hb hkn hk42
        refine x_iload_n (dtk dt_X12_findTwo 26 (42, .iload_n 3, 1) rfl) rfl ?_
        have J139_8 : ∀ (j : Bool), (j = (twR m d).isSome) → (∀ z, twR m d = some z → ∀ i, 0 ≤ i → i < m → M1 51 i = z i) → MW G mi_X12_findTwo (rmd 5 0 0) (MZ G (UQ sd none n K M (fun M' => M' 36 21 = 1 ∧ M' 36 22 = o ∧ M' 36 23 = B ((twR m d).isSome) ∧ ∀ z, twR m d = some z → ∀ i, 0 ≤ i → i < m → M' 52 i = z i ∧ M' 53 i = secV m d z i)) 0 0) (0, 0) 139 [(0, (1, 36)), (1, (0, o)), (2, (0, m))] [(0, B j), (1, 36)] n K (M1) := by
          intro j hJ5 hJ6
          have hok : j = true → TwoOK m d (M1 51) := by (intro hj; rw [hJ5] at hj; obtain ⟨z, hz⟩ := Option.isSome_iff_exists.mp hj; exact (two_ok hsz.1 hz).congr (fun i h0 h1 => hJ6 z hz i h0 h1))
          refine fp_X12_196 rfl (dtk dt_X12_findTwo 85 (139, .putfield 196, 3) rfl) (wk_36 hA.wf) (B_01 j) ?_
          refine x_iconst (v := 0) ⟨by decide, by decide⟩ (dtk dt_X12_findTwo 86 (142, .iconst 0, 1) rfl) ?_
          refine x_istore (dtk dt_X12_findTwo 87 (143, .istore 4, 2) rfl) (by decide) ?_
          have L145 : ∀ (fu : Nat) (v4 : Int) (M4 : MM), (0 ≤ v4 ∧ v4 ≤ m) → (sd M M4) → (M4 36 21 = 1 ∧ M4 36 22 = o ∧ M4 36 23 = B j) → (M4 51 = M1 51) → (∀ i, 0 ≤ i → i < v4 → M4 52 i = M1 51 i) → (M4 53 = foldG v4 (fun T i => up T (ahN m d (M1 51) i) (M1 51 i)) (M1 53)) → (m - v4).toNat = fu → MW G mi_X12_findTwo (rmd 5 0 0) (MZ G (UQ sd none n K M (fun M' => M' 36 21 = 1 ∧ M' 36 22 = o ∧ M' 36 23 = B ((twR m d).isSome) ∧ ∀ z, twR m d = some z → ∀ i, 0 ≤ i → i < m → M' 52 i = z i ∧ M' 53 i = secV m d z i)) 0 0) (0, 0) 145 [(0, (1, 36)), (1, (0, o)), (2, (0, m)), (4, (0, v4))] [] n K (M4) := by
            intro fu
            induction fu using Nat.strongRecOn with
            | ind fu ih145 =>
              intro v4 M4 h7 hs4 hk4 hc4 hf4 hg4 hk145
              refine x_aload_n (dtk dt_X12_findTwo 88 (145, .aload_n 0, 1) rfl) rfl ?_
              refine fg_X12_196 rfl (dtk dt_X12_findTwo 89 (146, .getfield 196, 3) rfl) (wk_36 hA.wf) hk4.2.2 ?_
              refine x_if_eqB (tgt := 264) (dtk dt_X12_findTwo 90 (149, .ifCond .eq 115, 3) rfl) (by decide) (fun c149 => ?_) (fun c149 => ?_)
              · skip
                exact ru_v (dtk dt_X12_findTwo 152 (264, .return_, 1) rfl) rfl hs4 (by refine ⟨hk4.1, hk4.2.1, by rw [hk4.2.2, hJ5], fun z hz i h0 h1 => ?_⟩; first | (exfalso; rw [hJ5, hz] at c149; cases c149; done) | (rw [show v4 = m by omega] at hf4 hg4; rw [hf4 i h0 h1, hg4, sec_fold hP hxo2 _ ⟨h0, h1⟩, secV_congr (fun k k0 k1 => hJ6 z hz k k0 k1)]; exact ⟨hJ6 z hz i h0 h1, rfl⟩))
              · skip
                refine x_iload (dtk dt_X12_findTwo 91 (152, .iload 4, 2) rfl) rfl ?_
                refine x_iload_n (dtk dt_X12_findTwo 92 (154, .iload_n 2, 1) rfl) rfl ?_
                refine x_icmp_ge (tgt := 264) (dtk dt_X12_findTwo 93 (155, .if_icmp .ge 109, 3) rfl) (by decide) (fun c155 => ?_) (fun c155 => ?_)
                · skip
                  have hxo2 := hok c149
                  exact ru_v (dtk dt_X12_findTwo 152 (264, .return_, 1) rfl) rfl hs4 (by refine ⟨hk4.1, hk4.2.1, by rw [hk4.2.2, hJ5], fun z hz i h0 h1 => ?_⟩; first | (exfalso; rw [hJ5, hz] at c149; cases c149; done) | (rw [show v4 = m by omega] at hf4 hg4; rw [hf4 i h0 h1, hg4, sec_fold hP hxo2 _ ⟨h0, h1⟩, secV_congr (fun k k0 k1 => hJ6 z hz k k0 k1)]; exact ⟨hJ6 z hz i h0 h1, rfl⟩))
                · skip
                  have hxo := hok c149
                  have hx4 := (hxo v4 h7.1 (by omega)).2
                  refine x_aload_n (dtk dt_X12_findTwo 94 (158, .aload_n 0, 1) rfl) rfl ?_
                  refine fg_X12_59 rfl (dtk dt_X12_findTwo 95 (159, .getfield 59, 3) rfl) (wk_36 hA.wf) (wm_36_24 (hA.off_sd hs4).wf) ?_
                  refine x_iload (dtk dt_X12_findTwo 96 (162, .iload 4, 2) rfl) rfl ?_
                  refine x_aload_n (dtk dt_X12_findTwo 97 (164, .aload_n 0, 1) rfl) rfl ?_
                  refine fg_X12_56 rfl (dtk dt_X12_findTwo 98 (165, .getfield 56, 3) rfl) (wk_36 hA.wf) (wm_36_20 (hA.off_sd hs4).wf) ?_
                  refine x_iload (dtk dt_X12_findTwo 99 (168, .iload 4, 2) rfl) rfl ?_
                  refine x_iald (dtk dt_X12_findTwo 100 (170, .iaload, 1) rfl) (wk_51 hA.wf) ⟨by omega, by omega⟩ ?_
                  rw [hc4]
                  refine x_iast (dtk dt_X12_findTwo 101 (171, .iastore, 1) rfl) (wk_52 hA.wf) ⟨by omega, by omega⟩ ?_
                  refine x_aload_n (dtk dt_X12_findTwo 102 (172, .aload_n 0, 1) rfl) rfl ?_
                  refine fg_X12_16 rfl (dtk dt_X12_findTwo 103 (173, .getfield 16, 3) rfl) (wk_36 hA.wf) (wm_36_3 (hA.off_sd (sd.st 52 rfl hs4)).wf) ?_
                  refine x_bipush (v := 10) ⟨by decide, by decide⟩ (dtk dt_X12_findTwo 104 (176, .bipush 10, 2) rfl) ?_
                  refine x_iload_n (dtk dt_X12_findTwo 105 (178, .iload_n 1, 1) rfl) rfl ?_
                  refine y_imul (dtk dt_X12_findTwo 106 (179, .imul, 1) rfl) ⟨by omega, by omega⟩ ?_
                  refine x_aload_n (dtk dt_X12_findTwo 107 (180, .aload_n 0, 1) rfl) rfl ?_
                  refine fg_X12_56 rfl (dtk dt_X12_findTwo 108 (181, .getfield 56, 3) rfl) (wk_36 hA.wf) (wm_36_20 (hA.off_sd (sd.st 52 rfl hs4)).wf) ?_
                  refine x_iload (dtk dt_X12_findTwo 109 (184, .iload 4, 2) rfl) rfl ?_
                  refine x_iald (dtk dt_X12_findTwo 110 (186, .iaload, 1) rfl) (wk_51 hA.wf) ⟨by omega, by omega⟩ ?_
                  rw [st2_ne _ (show (51 : Int) ≠ 52 by decide), hc4]
                  refine y_iadd (dtk dt_X12_findTwo 111 (187, .iadd, 1) rfl) ⟨by omega, by omega⟩ ?_
                  refine x_iald (dtk dt_X12_findTwo 112 (188, .iaload, 1) rfl) (wk_39 hA.wf) ⟨by omega, by omega⟩ ?_
                  rw [(hA.off_sd (sd.st 52 rfl hs4)).at]
                  refine kc_X12_133 rfl (dtk dt_X12_findTwo 113 (189, .invokestatic 133, 3) rfl) (c_X12_bits (G := G)  (hA.ok.nn (by omega))) rfl rfl (fitR (by decide) (by decide)) (Nat.le_of_ble_eq_true rfl) (pqK ?_)
                  change MW G _ _ _ _ _ _ ((0, cnt (d (M1 51 v4))) :: _) _ _ _
                  refine x_istore (dtk dt_X12_findTwo 114 (192, .istore 5, 2) rfl) (by decide) ?_
                  refine x_iload (dtk dt_X12_findTwo 115 (194, .iload 4, 2) rfl) rfl ?_
                  refine x_iconst (v := 1) ⟨by decide, by decide⟩ (dtk dt_X12_findTwo 116 (196, .iconst 1, 1) rfl) ?_
                  refine y_iadd (dtk dt_X12_findTwo 117 (197, .iadd, 1) rfl) ⟨by omega, by omega⟩ ?_
                  refine x_istore (dtk dt_X12_findTwo 118 (198, .istore 6, 2) rfl) (by decide) ?_
                  have L200 : ∀ (fu : Nat) (v5 : Int) (v6 : Int), (v4 < v6 ∧ v6 ≤ m) → (v5 = cnt (d (M1 51 v4)) + sumZ v6 (fun j => B (decide (v4 < j) && apr d (M1 51 v4) (M1 51 j)))) → (m - v6).toNat = fu → MW G mi_X12_findTwo (rmd 5 0 0) (MZ G (UQ sd none n K M (fun M' => M' 36 21 = 1 ∧ M' 36 22 = o ∧ M' 36 23 = B ((twR m d).isSome) ∧ ∀ z, twR m d = some z → ∀ i, 0 ≤ i → i < m → M' 52 i = z i ∧ M' 53 i = secV m d z i)) 0 0) (0, 0) 200 [(0, (1, 36)), (1, (0, o)), (2, (0, m)), (4, (0, v4)), (5, (0, v5)), (6, (0, v6))] [] n K (st2 M4 52 v4 (M1 51 v4)) := by
                    intro fu
                    induction fu using Nat.strongRecOn with
                    | ind fu ih200 =>
                      intro v5 v6 h9 h10 hk200
                      have hb6 := sumZ_b01 (n := v6) (by omega) (fun j => decide (v4 < j) && apr d (M1 51 v4) (M1 51 j))
                      have hcb := cnt_b (d (M1 51 v4))
                      refine x_iload (dtk dt_X12_findTwo 119 (200, .iload 6, 2) rfl) rfl ?_
                      refine x_iload_n (dtk dt_X12_findTwo 120 (202, .iload_n 2, 1) rfl) rfl ?_
                      refine x_icmp_ge (tgt := 244) (dtk dt_X12_findTwo 121 (203, .if_icmp .ge 41, 3) rfl) (by decide) (fun c203 => ?_) (fun c203 => ?_)
                      · skip
                        have hav := ahN_b hP hxo ⟨h7.1, by omega⟩
                        have h10b : v5 = ahN m d (M1 51) v4 := by (rw [h10, show v6 = m by omega]; rfl)
                        refine x_aload_n (dtk dt_X12_findTwo 142 (244, .aload_n 0, 1) rfl) rfl ?_
                        refine fg_X12_62 rfl (dtk dt_X12_findTwo 143 (245, .getfield 62, 3) rfl) (wk_36 hA.wf) (wm_36_25 (hA.off_sd (sd.st 52 rfl hs4)).wf) ?_
                        refine x_iload (dtk dt_X12_findTwo 144 (248, .iload 5, 2) rfl) rfl ?_
                        refine x_aload_n (dtk dt_X12_findTwo 145 (250, .aload_n 0, 1) rfl) rfl ?_
                        refine fg_X12_56 rfl (dtk dt_X12_findTwo 146 (251, .getfield 56, 3) rfl) (wk_36 hA.wf) (wm_36_20 (hA.off_sd (sd.st 52 rfl hs4)).wf) ?_
                        refine x_iload (dtk dt_X12_findTwo 147 (254, .iload 4, 2) rfl) rfl ?_
                        refine x_iald (dtk dt_X12_findTwo 148 (256, .iaload, 1) rfl) (wk_51 hA.wf) ⟨by omega, by omega⟩ ?_
                        rw [st2_ne _ (show (51 : Int) ≠ 52 by decide), hc4]
                        refine x_iast (dtk dt_X12_findTwo 149 (257, .iastore, 1) rfl) (wk_53 hA.wf) ⟨by omega, by omega⟩ ?_
                        refine y_iinc (dtk dt_X12_findTwo 150 (258, .iinc 4 1, 3) rfl) rfl (by decide) ⟨by omega, by omega⟩ ?_
                        refine x_goto (tgt := 145) (dtk dt_X12_findTwo 151 (261, .goto (-116), 3) rfl) (by decide) ?_
                        refine MW.sub [1, 2, 3, 0] rfl ?_
                        exact ih145 _ (by omega) _ _ (by omega) (sd.st 53 rfl (sd.st 52 rfl hs4)) (by rw [st2_ne _ (show (36 : Int) ≠ 53 by decide), st2_ne _ (show (36 : Int) ≠ 52 by decide)]; exact hk4) (by rw [st2_ne _ (show (51 : Int) ≠ 53 by decide), st2_ne _ (show (51 : Int) ≠ 52 by decide)]; exact hc4) (fun i h0 h1 => by rw [st2_ne _ (show (52 : Int) ≠ 53 by decide), st2_up]; show (if i = v4 then _ else _) = _; split; (rename_i h; rw [h]); exact hf4 i h0 (by omega)) (by rw [st2_up, st2_ne _ (show (53 : Int) ≠ 52 by decide), hg4, foldG_s h7.1, h10, show v6 = m by omega]; rfl) rfl
                      · skip
                        have hx6 := (hxo v6 (by omega) (by omega)).2
                        have J235_24 : ∀ (j7 : Bool), (j7 = apr d (M1 51 v4) (M1 51 v6)) → MW G mi_X12_findTwo (rmd 5 0 0) (MZ G (UQ sd none n K M (fun M' => M' 36 21 = 1 ∧ M' 36 22 = o ∧ M' 36 23 = B ((twR m d).isSome) ∧ ∀ z, twR m d = some z → ∀ i, 0 ≤ i → i < m → M' 52 i = z i ∧ M' 53 i = secV m d z i)) 0 0) (0, 0) 235 [(0, (1, 36)), (1, (0, o)), (2, (0, m)), (4, (0, v4)), (5, (0, v5)), (6, (0, v6))] [(0, B j7), (0, v5)] n K (st2 M4 52 v4 (M1 51 v4)) := by
                          intro j7 hJ7
                          have hj7 := B_01 j7
                          refine y_iadd (dtk dt_X12_findTwo 138 (235, .iadd, 1) rfl) ⟨by omega, by omega⟩ ?_
                          refine x_istore (dtk dt_X12_findTwo 139 (236, .istore 5, 2) rfl) (by decide) ?_
                          refine y_iinc (dtk dt_X12_findTwo 140 (238, .iinc 6 1, 3) rfl) rfl (by decide) ⟨by omega, by omega⟩ ?_
                          refine x_goto (tgt := 200) (dtk dt_X12_findTwo 141 (241, .goto (-41), 3) rfl) (by decide) ?_
                          refine MW.sub [2, 3, 4, 5, 1, 0] rfl ?_
                          exact ih200 _ (by omega) _ _ (by omega) (by rw [sumZ_s (by omega), h10, hJ7, decide_eq_true (show v4 < v6 by omega)]; simp; omega) rfl
                        refine x_iload (dtk dt_X12_findTwo 122 (206, .iload 5, 2) rfl) rfl ?_
                        refine x_aload_n (dtk dt_X12_findTwo 123 (208, .aload_n 0, 1) rfl) rfl ?_
                        refine x_iload_n (dtk dt_X12_findTwo 124 (209, .iload_n 1, 1) rfl) rfl ?_
                        refine x_aload_n (dtk dt_X12_findTwo 125 (210, .aload_n 0, 1) rfl) rfl ?_
                        refine fg_X12_56 rfl (dtk dt_X12_findTwo 126 (211, .getfield 56, 3) rfl) (wk_36 hA.wf) (wm_36_20 (hA.off_sd (sd.st 52 rfl hs4)).wf) ?_
                        refine x_iload (dtk dt_X12_findTwo 127 (214, .iload 4, 2) rfl) rfl ?_
                        refine x_iald (dtk dt_X12_findTwo 128 (216, .iaload, 1) rfl) (wk_51 hA.wf) ⟨by omega, by omega⟩ ?_
                        rw [st2_ne _ (show (51 : Int) ≠ 52 by decide), hc4]
                        refine x_aload_n (dtk dt_X12_findTwo 129 (217, .aload_n 0, 1) rfl) rfl ?_
                        refine fg_X12_56 rfl (dtk dt_X12_findTwo 130 (218, .getfield 56, 3) rfl) (wk_36 hA.wf) (wm_36_20 (hA.off_sd (sd.st 52 rfl hs4)).wf) ?_
                        refine x_iload (dtk dt_X12_findTwo 131 (221, .iload 6, 2) rfl) rfl ?_
                        refine x_iald (dtk dt_X12_findTwo 132 (223, .iaload, 1) rfl) (wk_51 hA.wf) ⟨by omega, by omega⟩ ?_
                        rw [st2_ne _ (show (51 : Int) ≠ 52 by decide), hc4]
                        refine kc_X12_157 rfl (dtk dt_X12_findTwo 133 (224, .invokevirtual 157, 3) rfl) (c_X12_isApart (G := G)  (hA.off_sd (sd.st 52 rfl hs4)) (by omega) (by omega)) rfl rfl (wk_36 hA.wf) (fitR (by decide) (by decide)) (Nat.le_of_ble_eq_true rfl) (pqK ?_)
                        refine x_if_eqB (tgt := 234) (dtk dt_X12_findTwo 134 (227, .ifCond .eq 7, 3) rfl) (by decide) (fun c227 => ?_) (fun c227 => ?_)
                        · skip
                          refine x_iconst (v := 0) ⟨by decide, by decide⟩ (dtk dt_X12_findTwo 137 (234, .iconst 0, 1) rfl) ?_
                          refine MW.sub [0, 1, 2, 3, 4, 5] rfl ?_
                          exact J235_24 false (by simp_all)
                        · skip
                          refine x_iconst (v := 1) ⟨by decide, by decide⟩ (dtk dt_X12_findTwo 135 (230, .iconst 1, 1) rfl) ?_
                          refine x_goto (tgt := 235) (dtk dt_X12_findTwo 136 (231, .goto 4, 3) rfl) (by decide) ?_
                          refine MW.sub [0, 1, 2, 3, 4, 5] rfl ?_
                          exact J235_24 true (by simp_all)
                  refine MW.sub [2, 3, 4, 5, 1, 0] rfl ?_
                  exact L200 _ _ _ (by omega) (by rw [sumZ_0f (fun i h0 h1 => by rw [decide_eq_false (by omega)]; rfl)]; omega) rfl
          refine MW.sub [1, 2, 3, 0] rfl ?_
          exact L145 _ _ _ (by omega) (sd.fd 36 23 rfl hs1) (by simp [st2]; exact hkn) (by rw [st2_ne _ (show (51 : Int) ≠ 36 by decide)]) (fun i h0 h1 => by omega) (by rw [st2_ne _ (show (53 : Int) ≠ 36 by decide)]; rfl) rfl
        refine x_if_lt (tgt := 128) (dtk dt_X12_findTwo 27 (43, .ifCond .lt 85, 3) rfl) (by decide) (fun c43 => ?_) (fun c43 => ?_)
        · skip
          refine x_aload_n (dtk dt_X12_findTwo 78 (128, .aload_n 0, 1) rfl) rfl ?_
          refine x_iload_n (dtk dt_X12_findTwo 79 (129, .iload_n 3, 1) rfl) rfl ?_
          refine x_iload_n (dtk dt_X12_findTwo 80 (130, .iload_n 2, 1) rfl) rfl ?_
          refine x_icmp_ne (tgt := 138) (dtk dt_X12_findTwo 81 (131, .if_icmp .ne 7, 3) rfl) (by decide) (fun c131 => ?_) (fun c131 => ?_)
          · skip
            refine x_iconst (v := 0) ⟨by decide, by decide⟩ (dtk dt_X12_findTwo 84 (138, .iconst 0, 1) rfl) ?_
            refine MW.sub [0, 1, 2] rfl ?_
            exact J139_8 false (by rw [← hb]; first | (exfalso; omega) | (rw [show v3 = -1 by omega]; rfl) | (rw [show v3 = m by omega, bk_n (by omega)]; rfl)) (fun z hz i h0 h1 => by rw [← hb] at hz; first | (exfalso; omega) | (rw [show v3 = -1 by omega] at hz; cases hz) | (rw [show v3 = m by omega, bk_n (by omega)] at hz; rw [← Option.some.inj hz]; unfold nrm; rw [if_pos ⟨h0, h1⟩]))
          · skip
            refine x_iconst (v := 1) ⟨by decide, by decide⟩ (dtk dt_X12_findTwo 82 (134, .iconst 1, 1) rfl) ?_
            refine x_goto (tgt := 139) (dtk dt_X12_findTwo 83 (135, .goto 4, 3) rfl) (by decide) ?_
            refine MW.sub [0, 1, 2] rfl ?_
            exact J139_8 true (by rw [← hb]; first | (exfalso; omega) | (rw [show v3 = -1 by omega]; rfl) | (rw [show v3 = m by omega, bk_n (by omega)]; rfl)) (fun z hz i h0 h1 => by rw [← hb] at hz; first | (exfalso; omega) | (rw [show v3 = -1 by omega] at hz; cases hz) | (rw [show v3 = m by omega, bk_n (by omega)] at hz; rw [← Option.some.inj hz]; unfold nrm; rw [if_pos ⟨h0, h1⟩]))
        · skip
          refine x_iload_n (dtk dt_X12_findTwo 28 (46, .iload_n 3, 1) rfl) rfl ?_
          refine x_iload_n (dtk dt_X12_findTwo 29 (47, .iload_n 2, 1) rfl) rfl ?_
          refine x_icmp_ge (tgt := 128) (dtk dt_X12_findTwo 30 (48, .if_icmp .ge 80, 3) rfl) (by decide) (fun c48 => ?_) (fun c48 => ?_)
          · skip
            refine x_aload_n (dtk dt_X12_findTwo 78 (128, .aload_n 0, 1) rfl) rfl ?_
            refine x_iload_n (dtk dt_X12_findTwo 79 (129, .iload_n 3, 1) rfl) rfl ?_
            refine x_iload_n (dtk dt_X12_findTwo 80 (130, .iload_n 2, 1) rfl) rfl ?_
            refine x_icmp_ne (tgt := 138) (dtk dt_X12_findTwo 81 (131, .if_icmp .ne 7, 3) rfl) (by decide) (fun c131 => ?_) (fun c131 => ?_)
            · skip
              refine x_iconst (v := 0) ⟨by decide, by decide⟩ (dtk dt_X12_findTwo 84 (138, .iconst 0, 1) rfl) ?_
              refine MW.sub [0, 1, 2] rfl ?_
              exact J139_8 false (by rw [← hb]; first | (exfalso; omega) | (rw [show v3 = -1 by omega]; rfl) | (rw [show v3 = m by omega, bk_n (by omega)]; rfl)) (fun z hz i h0 h1 => by rw [← hb] at hz; first | (exfalso; omega) | (rw [show v3 = -1 by omega] at hz; cases hz) | (rw [show v3 = m by omega, bk_n (by omega)] at hz; rw [← Option.some.inj hz]; unfold nrm; rw [if_pos ⟨h0, h1⟩]))
            · skip
              refine x_iconst (v := 1) ⟨by decide, by decide⟩ (dtk dt_X12_findTwo 82 (134, .iconst 1, 1) rfl) ?_
              refine x_goto (tgt := 139) (dtk dt_X12_findTwo 83 (135, .goto 4, 3) rfl) (by decide) ?_
              refine MW.sub [0, 1, 2] rfl ?_
              exact J139_8 true (by rw [← hb]; first | (exfalso; omega) | (rw [show v3 = -1 by omega]; rfl) | (rw [show v3 = m by omega, bk_n (by omega)]; rfl)) (fun z hz i h0 h1 => by rw [← hb] at hz; first | (exfalso; omega) | (rw [show v3 = -1 by omega] at hz; cases hz) | (rw [show v3 = m by omega, bk_n (by omega)] at hz; rw [← Option.some.inj hz]; unfold nrm; rw [if_pos ⟨h0, h1⟩]))
          · skip
            refine x_aload_n (dtk dt_X12_findTwo 31 (51, .aload_n 0, 1) rfl) rfl ?_
            refine fg_X12_56 rfl (dtk dt_X12_findTwo 32 (52, .getfield 56, 3) rfl) (wk_36 hA.wf) (wm_36_20 (hA.off_sd hs1).wf) ?_
            refine x_iload_n (dtk dt_X12_findTwo 33 (55, .iload_n 3, 1) rfl) rfl ?_
            refine x_dup2 rfl rfl (dtk dt_X12_findTwo 34 (56, .dup2, 1) rfl) ?_
            refine x_iald (dtk dt_X12_findTwo 35 (57, .iaload, 1) rfl) (wk_51 hA.wf) ⟨by omega, by omega⟩ ?_
            refine x_iconst (v := 1) ⟨by decide, by decide⟩ (dtk dt_X12_findTwo 36 (58, .iconst 1, 1) rfl) ?_
            refine y_iadd (dtk dt_X12_findTwo 37 (59, .iadd, 1) rfl) ⟨by omega, by omega⟩ ?_
            refine x_iast (dtk dt_X12_findTwo 38 (60, .iastore, 1) rfl) (wk_51 hA.wf) ⟨by omega, by omega⟩ ?_
            have L61 : ∀ (fu : Nat) (M2 : MM), (sd M M2) → (∀ i, 0 ≤ i → i < v3 → M2 51 i = M1 51 i) → (M1 51 v3 < M2 51 v3 ∧ M2 51 v3 ≤ m) → (now (m) (m) (twP d) (M2 51) v3 = twR m d) → (M2 36 21 = 1 ∧ M2 36 22 = o) → (m - M2 51 v3).toNat = fu → MW G mi_X12_findTwo (rmd 5 0 0) (MZ G (UQ sd none n K M (fun M' => M' 36 21 = 1 ∧ M' 36 22 = o ∧ M' 36 23 = B ((twR m d).isSome) ∧ ∀ z, twR m d = some z → ∀ i, 0 ≤ i → i < m → M' 52 i = z i ∧ M' 53 i = secV m d z i)) 0 0) (0, 0) 61 [(0, (1, 36)), (1, (0, o)), (2, (0, m)), (3, (0, v3))] [] n K (M2) := by
              intro fu
              induction fu using Nat.strongRecOn with
              | ind fu ih61 =>
                intro M2 hs2 ha hc hn hkn2 hk61
                refine x_aload_n (dtk dt_X12_findTwo 39 (61, .aload_n 0, 1) rfl) rfl ?_
                have J99_16 : (m ≤ M2 51 v3 ∨ (twP d) (M2 51) v3 (M2 51 v3) = true) → MW G mi_X12_findTwo (rmd 5 0 0) (MZ G (UQ sd none n K M (fun M' => M' 36 21 = 1 ∧ M' 36 22 = o ∧ M' 36 23 = B ((twR m d).isSome) ∧ ∀ z, twR m d = some z → ∀ i, 0 ≤ i → i < m → M' 52 i = z i ∧ M' 53 i = secV m d z i)) 0 0) (0, 0) 99 [(0, (1, 36)), (1, (0, o)), (2, (0, m)), (3, (0, v3))] [] n K (M2) := by
                  intro  hJ
                  have hx2 : ∀ i, 0 ≤ i → i < v3 → 0 ≤ M2 51 i ∧ M2 51 i < m := fun i h0 h1 => by rw [ha i h0 h1]; exact hx i h0 h1
                  refine x_aload_n (dtk dt_X12_findTwo 63 (99, .aload_n 0, 1) rfl) rfl ?_
                  refine fg_X12_56 rfl (dtk dt_X12_findTwo 64 (100, .getfield 56, 3) rfl) (wk_36 hA.wf) (wm_36_20 (hA.off_sd hs2).wf) ?_
                  refine x_iload_n (dtk dt_X12_findTwo 65 (103, .iload_n 3, 1) rfl) rfl ?_
                  refine x_iald (dtk dt_X12_findTwo 66 (104, .iaload, 1) rfl) (wk_51 hA.wf) ⟨by omega, by omega⟩ ?_
                  refine x_iload_n (dtk dt_X12_findTwo 67 (105, .iload_n 2, 1) rfl) rfl ?_
                  refine x_icmp_ge (tgt := 122) (dtk dt_X12_findTwo 68 (106, .if_icmp .ge 16, 3) rfl) (by decide) (fun c106 => ?_) (fun c106 => ?_)
                  · skip
                    refine y_iinc (dtk dt_X12_findTwo 76 (122, .iinc 3 (-1), 3) rfl) rfl (by decide) ⟨by omega, by omega⟩ ?_
                    refine x_goto (tgt := 42) (dtk dt_X12_findTwo 77 (125, .goto (-83), 3) rfl) (by decide) ?_
                    refine MW.sub [1, 2, 3, 0] rfl ?_
                    exact ih42 _ (by rw [← hk42]; first | (rw [st2_up]; exact mu_next ⟨by omega, by omega⟩ (fun i h0 h1 => by rw [show up (M2 51) (v3 + 1) (-1) i = M2 51 i from if_neg (by omega)]; exact ha i h0 h1) (by rw [show up (M2 51) (v3 + 1) (-1) v3 = M2 51 v3 from if_neg (by omega)]; omega) (if_pos rfl)) | (rw [show v3 + -1 + 1 = v3 by omega]; exact mu_back (by omega) (fun i h0 h1 => ha i h0 h1) (by omega))) _ _ (by omega) hs2 (fun i h0 hi => by first | (rw [st2_up, show up (M2 51) (v3 + 1) (-1) i = M2 51 i from if_neg (by omega)]; by_cases hq : i = v3; (rw [hq]; omega); exact hx2 i h0 (by omega)) | exact hx2 i h0 (by omega)) (fun hv => by first | (rw [st2_self]; omega) | (have hz := hx2 (v3 + -1) (by omega) (by omega); omega)) (by first | (rw [st2_up, now_ok (twP_loc d) ⟨by omega, by omega⟩ (by omega) (by omega) hf]; exact hn) | (rw [now_e ⟨by omega, by omega⟩ (by omega)] at hn; rw [show v3 + -1 + 1 = v3 by omega]; exact hn)) (by first | (rw [st2_ne _ (show (36 : Int) ≠ 51 by decide)]; exact hkn2) | exact hkn2) rfl
                  · skip
                    have hf : (twP d) (M2 51) v3 (M2 51 v3) = true := by (rcases hJ with hJ | hJ; omega; exact hJ)
                    refine y_iinc (dtk dt_X12_findTwo 69 (109, .iinc 3 1, 3) rfl) rfl (by decide) ⟨by omega, by omega⟩ ?_
                    refine x_aload_n (dtk dt_X12_findTwo 70 (112, .aload_n 0, 1) rfl) rfl ?_
                    refine fg_X12_56 rfl (dtk dt_X12_findTwo 71 (113, .getfield 56, 3) rfl) (wk_36 hA.wf) (wm_36_20 (hA.off_sd hs2).wf) ?_
                    refine x_iload_n (dtk dt_X12_findTwo 72 (116, .iload_n 3, 1) rfl) rfl ?_
                    refine x_iconst (v := -1) ⟨by decide, by decide⟩ (dtk dt_X12_findTwo 73 (117, .iconst (-1), 1) rfl) ?_
                    refine x_iast (dtk dt_X12_findTwo 74 (118, .iastore, 1) rfl) (wk_51 hA.wf) ⟨by omega, by omega⟩ ?_
                    refine x_goto (tgt := 42) (dtk dt_X12_findTwo 75 (119, .goto (-77), 3) rfl) (by decide) ?_
                    refine MW.sub [1, 2, 3, 0] rfl ?_
                    exact ih42 _ (by rw [← hk42]; first | (rw [st2_up]; exact mu_next ⟨by omega, by omega⟩ (fun i h0 h1 => by rw [show up (M2 51) (v3 + 1) (-1) i = M2 51 i from if_neg (by omega)]; exact ha i h0 h1) (by rw [show up (M2 51) (v3 + 1) (-1) v3 = M2 51 v3 from if_neg (by omega)]; omega) (if_pos rfl)) | (rw [show v3 + -1 + 1 = v3 by omega]; exact mu_back (by omega) (fun i h0 h1 => ha i h0 h1) (by omega))) _ _ (by omega) (sd.st 51 rfl hs2) (fun i h0 hi => by first | (rw [st2_up, show up (M2 51) (v3 + 1) (-1) i = M2 51 i from if_neg (by omega)]; by_cases hq : i = v3; (rw [hq]; omega); exact hx2 i h0 (by omega)) | exact hx2 i h0 (by omega)) (fun hv => by first | (rw [st2_self]; omega) | (have hz := hx2 (v3 + -1) (by omega) (by omega); omega)) (by first | (rw [st2_up, now_ok (twP_loc d) ⟨by omega, by omega⟩ (by omega) (by omega) hf]; exact hn) | (rw [now_e ⟨by omega, by omega⟩ (by omega)] at hn; rw [show v3 + -1 + 1 = v3 by omega]; exact hn)) (by first | (rw [st2_ne _ (show (36 : Int) ≠ 51 by decide)]; exact hkn2) | exact hkn2) rfl
                refine fg_X12_56 rfl (dtk dt_X12_findTwo 40 (62, .getfield 56, 3) rfl) (wk_36 hA.wf) (wm_36_20 (hA.off_sd hs2).wf) ?_
                refine x_iload_n (dtk dt_X12_findTwo 41 (65, .iload_n 3, 1) rfl) rfl ?_
                refine x_iald (dtk dt_X12_findTwo 42 (66, .iaload, 1) rfl) (wk_51 hA.wf) ⟨by omega, by omega⟩ ?_
                refine x_iload_n (dtk dt_X12_findTwo 43 (67, .iload_n 2, 1) rfl) rfl ?_
                refine x_icmp_ge (tgt := 99) (dtk dt_X12_findTwo 44 (68, .if_icmp .ge 31, 3) rfl) (by decide) (fun c68 => ?_) (fun c68 => ?_)
                · skip
                  refine MW.sub [0, 1, 2, 3] rfl ?_
                  exact J99_16  (by first | exact Or.inr c83 | (exact Or.inl (by omega)))
                · skip
                  refine x_aload_n (dtk dt_X12_findTwo 45 (71, .aload_n 0, 1) rfl) rfl ?_
                  refine x_iload_n (dtk dt_X12_findTwo 46 (72, .iload_n 1, 1) rfl) rfl ?_
                  refine x_iload_n (dtk dt_X12_findTwo 47 (73, .iload_n 3, 1) rfl) rfl ?_
                  refine x_aload_n (dtk dt_X12_findTwo 48 (74, .aload_n 0, 1) rfl) rfl ?_
                  refine fg_X12_56 rfl (dtk dt_X12_findTwo 49 (75, .getfield 56, 3) rfl) (wk_36 hA.wf) (wm_36_20 (hA.off_sd hs2).wf) ?_
                  refine x_iload_n (dtk dt_X12_findTwo 50 (78, .iload_n 3, 1) rfl) rfl ?_
                  refine x_iald (dtk dt_X12_findTwo 51 (79, .iaload, 1) rfl) (wk_51 hA.wf) ⟨by omega, by omega⟩ ?_
                  refine kc_X12_193 rfl (dtk dt_X12_findTwo 52 (80, .invokevirtual 193, 3) rfl) (c_X12_fitsTwo (G := G)  (hA.off_sd hs2) (by omega) (by omega) (fun i h0 h1 => by have hz := hx i h0 h1; rw [ha i h0 h1]; omega)) rfl rfl (wk_36 hA.wf) (fitR (by decide) (by decide)) (Nat.le_of_ble_eq_true rfl) (pqK ?_)
                  refine x_if_neB (tgt := 99) (dtk dt_X12_findTwo 53 (83, .ifCond .ne 16, 3) rfl) (by decide) (fun c83 => ?_) (fun c83 => ?_)
                  · skip
                    refine MW.sub [0, 1, 2, 3] rfl ?_
                    exact J99_16  (by first | exact Or.inr c83 | (exact Or.inl (by omega)))
                  · skip
                    refine x_aload_n (dtk dt_X12_findTwo 54 (86, .aload_n 0, 1) rfl) rfl ?_
                    refine fg_X12_56 rfl (dtk dt_X12_findTwo 55 (87, .getfield 56, 3) rfl) (wk_36 hA.wf) (wm_36_20 (hA.off_sd hs2).wf) ?_
                    refine x_iload_n (dtk dt_X12_findTwo 56 (90, .iload_n 3, 1) rfl) rfl ?_
                    refine x_dup2 rfl rfl (dtk dt_X12_findTwo 57 (91, .dup2, 1) rfl) ?_
                    refine x_iald (dtk dt_X12_findTwo 58 (92, .iaload, 1) rfl) (wk_51 hA.wf) ⟨by omega, by omega⟩ ?_
                    refine x_iconst (v := 1) ⟨by decide, by decide⟩ (dtk dt_X12_findTwo 59 (93, .iconst 1, 1) rfl) ?_
                    refine y_iadd (dtk dt_X12_findTwo 60 (94, .iadd, 1) rfl) ⟨by omega, by omega⟩ ?_
                    refine x_iast (dtk dt_X12_findTwo 61 (95, .iastore, 1) rfl) (wk_51 hA.wf) ⟨by omega, by omega⟩ ?_
                    refine x_goto (tgt := 61) (dtk dt_X12_findTwo 62 (96, .goto (-35), 3) rfl) (by decide) ?_
                    refine MW.sub [0, 1, 2, 3] rfl ?_
                    exact ih61 _ (by rw [st2_self]; omega) _ (sd.st 51 rfl hs2) (fun i h0 h1 => by rw [st2_up]; exact (if_neg (by omega)).trans (ha i h0 h1)) (by rw [st2_self]; omega) (by rw [st2_up, now_no (twP_loc d) ⟨by omega, by omega⟩ (by omega) c83]; exact hn) (by rw [st2_ne _ (show (36 : Int) ≠ 51 by decide)]; exact hkn2) rfl
            refine MW.sub [0, 1, 2, 3] rfl ?_
            exact L61 _ _ (sd.st 51 rfl hs1) (fun i h0 h1 => by rw [st2_up]; exact if_neg (by omega)) (by rw [st2_self]; omega) (by rw [st2_up, bk_in (twP_loc d) ⟨by omega, by omega⟩]; exact hb) (by rw [st2_ne _ (show (36 : Int) ≠ 51 by decide)]; exact hkn) rfl
    refine MW.sub [2, 3, 1, 0] rfl ?_
    exact L42 _ _ _ (by omega) (sd.st 51 rfl (sd.fd 36 22 rfl (sd.fd 36 21 rfl sd.rf))) (fun i h0 h1 => by omega) (fun _ => by rw [st2_self]; omega) (by exact bk_0 (by omega) (twP_loc d) (by rw [st2_self])) (by simp [st2]) rfl
  refine x_aload_n (dtk dt_X12_findTwo 0 (0, .aload_n 0, 1) rfl) rfl ?_
  refine fg_X12_93 rfl (dtk dt_X12_findTwo 1 (1, .getfield 93, 3) rfl) (wk_36 hA.wf) rfl ?_
  refine x_if_eq (tgt := 16) (dtk dt_X12_findTwo 2 (4, .ifCond .eq 12, 3) rfl) (by decide) (fun c4 => ?_) (fun c4 => ?_)
  · skip
    refine MW.sub [0, 1] rfl ?_
    exact J16_2  trivial
  · skip
    refine x_aload_n (dtk dt_X12_findTwo 3 (7, .aload_n 0, 1) rfl) rfl ?_
    refine fg_X12_190 rfl (dtk dt_X12_findTwo 4 (8, .getfield 190, 3) rfl) (wk_36 hA.wf) rfl ?_
    refine x_iload_n (dtk dt_X12_findTwo 5 (11, .iload_n 1, 1) rfl) rfl ?_
    refine x_icmp_ne (tgt := 16) (dtk dt_X12_findTwo 6 (12, .if_icmp .ne 4, 3) rfl) (by decide) (fun c12 => ?_) (fun c12 => ?_)
    · skip
      refine MW.sub [0, 1] rfl ?_
      exact J16_2  trivial
    · skip
      exact ru_v (dtk dt_X12_findTwo 7 (15, .return_, 1) rfl) rfl sd.rf (by rcases hT with hT | hT; exact absurd hT c4; (obtain ⟨t1, t2, t3⟩ := hT; rw [show M 36 22 = o by omega] at t3; unfold TWk at t3; rw [hA.2.2.1, hA.2.2.2] at t3; exact ⟨t1, by omega, t3⟩))
set_option maxRecDepth 100000 in
set_option maxHeartbeats 4000000 in
theorem c_X12_two {G : GG} {n : Nat} {K : KK} {M : MM} {o w i : Int} (hm : MO K M) (hP : isOr M o = true → PO (M 38 o) (dM M o)) (hT : TW M) : MC G mi_X12_two 6 0 0 [(1, 36), (0, o), (0, w), (0, i)] n K M (UQ sd (some (0, if isOr M o && (decide (0 ≤ w) && decide (w ≤ 1)) && (decide (0 ≤ i) && decide (i < M 38 o)) then (match twR (M 38 o) (dM M o) with | none => -1 | some z => if w = 0 then z i else secV (M 38 o) (dM M o) z i) else -1)) n K M (TW)) := by
  refine MC.intro (lc := [(0, (1, 36)), (1, (0, o)), (2, (0, w)), (3, (0, i))]) (by decide) rfl (by simp [Nat.ble]) (Nat.le_of_ble_eq_true rfl) rfl (fun hMR => ?_)
  refine x_aload_n (dtk dt_X12_two 0 (0, .aload_n 0, 1) rfl) rfl ?_
  refine x_iload_n (dtk dt_X12_two 1 (1, .iload_n 1, 1) rfl) rfl ?_
  refine kc_X12_78 rfl (dtk dt_X12_two 2 (2, .invokevirtual 78, 3) rfl) (c_X12_isOrder (G := G)  hm) rfl rfl (wk_36 hm.1) (fitR (by decide) (by decide)) (Nat.le_of_ble_eq_true rfl) (pqK ?_)
  refine x_if_eqB (tgt := 33) (dtk dt_X12_two 3 (5, .ifCond .eq 28, 3) rfl) (by decide) (fun c5 => ?_) (fun c5 => ?_)
  · skip
    refine x_iconst (v := -1) ⟨by decide, by decide⟩ (dtk dt_X12_two 19 (33, .iconst (-1), 1) rfl) ?_
    exact ru_i (dtk dt_X12_two 20 (34, .ireturn, 1) rfl) rfl (by first | (rw [if_neg hcond]; done) | (rw [c5]; rfl) | (rw [c14, Bool.and_false]; rfl)) sd.rf hT
  · skip
    have ho := isOr_of hm c5
    have hA : AT K M o (M 38 o) (dM M o) := ⟨hm, ho, rfl, rfl⟩
    have hsz := hA.ok.1
    refine x_iload_n (dtk dt_X12_two 4 (8, .iload_n 2, 1) rfl) rfl ?_
    refine x_iconst (v := 0) ⟨by decide, by decide⟩ (dtk dt_X12_two 5 (9, .iconst 0, 1) rfl) ?_
    refine x_iconst (v := 1) ⟨by decide, by decide⟩ (dtk dt_X12_two 6 (10, .iconst 1, 1) rfl) ?_
    refine kc_X12_74 rfl (dtk dt_X12_two 7 (11, .invokestatic 74, 3) rfl) (c_X12_in (G := G)  ) rfl rfl (fitR (by decide) (by decide)) (Nat.le_of_ble_eq_true rfl) (pqK ?_)
    refine x_if_eqB (tgt := 33) (dtk dt_X12_two 8 (14, .ifCond .eq 19, 3) rfl) (by decide) (fun c14 => ?_) (fun c14 => ?_)
    · skip
      refine x_iconst (v := -1) ⟨by decide, by decide⟩ (dtk dt_X12_two 19 (33, .iconst (-1), 1) rfl) ?_
      exact ru_i (dtk dt_X12_two 20 (34, .ireturn, 1) rfl) rfl (by first | (rw [if_neg hcond]; done) | (rw [c5]; rfl) | (rw [c14, Bool.and_false]; rfl)) sd.rf hT
    · skip
      refine x_iload_n (dtk dt_X12_two 9 (17, .iload_n 3, 1) rfl) rfl ?_
      refine x_iconst (v := 0) ⟨by decide, by decide⟩ (dtk dt_X12_two 10 (18, .iconst 0, 1) rfl) ?_
      refine x_aload_n (dtk dt_X12_two 11 (19, .aload_n 0, 1) rfl) rfl ?_
      refine fg_X12_13 rfl (dtk dt_X12_two 12 (20, .getfield 13, 3) rfl) (wk_36 hA.wf) (wm_36_2 hA.wf) ?_
      refine x_iload_n (dtk dt_X12_two 13 (23, .iload_n 1, 1) rfl) rfl ?_
      refine x_iald (dtk dt_X12_two 14 (24, .iaload, 1) rfl) (wk_38 hA.wf) ⟨by omega, by omega⟩ ?_
      refine x_iconst (v := 1) ⟨by decide, by decide⟩ (dtk dt_X12_two 15 (25, .iconst 1, 1) rfl) ?_
      refine y_isub (dtk dt_X12_two 16 (26, .isub, 1) rfl) ⟨by omega, by omega⟩ ?_
      refine kc_X12_74 rfl (dtk dt_X12_two 17 (27, .invokestatic 74, 3) rfl) (c_X12_in (G := G)  ) rfl rfl (fitR (by decide) (by decide)) (Nat.le_of_ble_eq_true rfl) (pqK ?_)
      refine x_if_neB (tgt := 35) (dtk dt_X12_two 18 (30, .ifCond .ne 5, 3) rfl) (by decide) (fun c30 => ?_) (fun c30 => ?_)
      · skip
        have hi : 0 ≤ i ∧ i < M 38 o := by (simp at c30; omega)
        have hw : 0 ≤ w ∧ w ≤ 1 := by (simp at c14; omega)
        have hcond : (isOr M o && (decide (0 ≤ w) && decide (w ≤ 1)) && (decide (0 ≤ i) && decide (i < M 38 o))) = true := by (rw [c5]; simp; omega)
        refine x_aload_n (dtk dt_X12_two 21 (35, .aload_n 0, 1) rfl) rfl ?_
        refine x_iload_n (dtk dt_X12_two 22 (36, .iload_n 1, 1) rfl) rfl ?_
        refine kc_X12_199 rfl (dtk dt_X12_two 23 (37, .invokevirtual 199, 3) rfl) (c_X12_findTwo (G := G)  hA (hP c5) (by omega)) rfl rfl (wk_36 hA.wf) (fitR (by decide) (by decide)) (Nat.le_of_ble_eq_true rfl) (uqK (fun M37_1 hs37_1 hE37_1 => ?_))
        have hE := hE37_1
        have hs0 := hs37_1
        refine x_aload_n (dtk dt_X12_two 24 (40, .aload_n 0, 1) rfl) rfl ?_
        refine fg_X12_196 rfl (dtk dt_X12_two 25 (41, .getfield 196, 3) rfl) (wk_36 hA.wf) hE.2.2.1 ?_
        refine x_if_neB (tgt := 51) (dtk dt_X12_two 26 (44, .ifCond .ne 7, 3) rfl) (by decide) (fun c44 => ?_) (fun c44 => ?_)
        · skip
          refine x_iload_n (dtk dt_X12_two 29 (51, .iload_n 2, 1) rfl) rfl ?_
          refine x_if_ne (tgt := 64) (dtk dt_X12_two 30 (52, .ifCond .ne 12, 3) rfl) (by decide) (fun c52 => ?_) (fun c52 => ?_)
          · skip
            refine x_aload_n (dtk dt_X12_two 36 (64, .aload_n 0, 1) rfl) rfl ?_
            refine fg_X12_62 rfl (dtk dt_X12_two 37 (65, .getfield 62, 3) rfl) (wk_36 hA.wf) (wm_36_25 (hA.off_sd hs37_1).wf) ?_
            refine x_iload_n (dtk dt_X12_two 38 (68, .iload_n 3, 1) rfl) rfl ?_
            refine x_iald (dtk dt_X12_two 39 (69, .iaload, 1) rfl) (wk_53 hA.wf) ⟨by omega, by omega⟩ ?_
            exact ru_i (dtk dt_X12_two 40 (70, .ireturn, 1) rfl) rfl (by rw [if_pos hcond]; cases hz : twR (M 38 o) (dM M o) with | none => (first | rfl | (exfalso; rw [hz] at c44; cases c44)) | some z => (first | (exfalso; rw [hz] at c44; cases c44; done) | (show _ = if w = 0 then _ else _; first | (rw [if_pos (by omega)]; exact (hE.2.2.2 z hz i hi.1 hi.2).1) | (rw [if_neg (by omega)]; exact (hE.2.2.2 z hz i hi.1 hi.2).2)))) hs37_1 (Or.inr ⟨hE.1, by rw [hE.2.1, hs0.2 0 (by omega)]; have := c5; unfold isOr at this; simp at this; omega, by rw [hE.2.1]; unfold TWk; rw [show M37_1 38 = M 38 from hs0.1 38 (by omega) (by omega), show dM M37_1 o = dM M o from by unfold dM; rw [hs0.1 39 (by omega) (by omega)]]; exact ⟨hE.2.2.1, hE.2.2.2⟩⟩)
          · skip
            refine x_aload_n (dtk dt_X12_two 31 (55, .aload_n 0, 1) rfl) rfl ?_
            refine fg_X12_59 rfl (dtk dt_X12_two 32 (56, .getfield 59, 3) rfl) (wk_36 hA.wf) (wm_36_24 (hA.off_sd hs37_1).wf) ?_
            refine x_iload_n (dtk dt_X12_two 33 (59, .iload_n 3, 1) rfl) rfl ?_
            refine x_iald (dtk dt_X12_two 34 (60, .iaload, 1) rfl) (wk_52 hA.wf) ⟨by omega, by omega⟩ ?_
            refine x_goto (tgt := 70) (dtk dt_X12_two 35 (61, .goto 9, 3) rfl) (by decide) ?_
            exact ru_i (dtk dt_X12_two 40 (70, .ireturn, 1) rfl) rfl (by rw [if_pos hcond]; cases hz : twR (M 38 o) (dM M o) with | none => (first | rfl | (exfalso; rw [hz] at c44; cases c44)) | some z => (first | (exfalso; rw [hz] at c44; cases c44; done) | (show _ = if w = 0 then _ else _; first | (rw [if_pos (by omega)]; exact (hE.2.2.2 z hz i hi.1 hi.2).1) | (rw [if_neg (by omega)]; exact (hE.2.2.2 z hz i hi.1 hi.2).2)))) hs37_1 (Or.inr ⟨hE.1, by rw [hE.2.1, hs0.2 0 (by omega)]; have := c5; unfold isOr at this; simp at this; omega, by rw [hE.2.1]; unfold TWk; rw [show M37_1 38 = M 38 from hs0.1 38 (by omega) (by omega), show dM M37_1 o = dM M o from by unfold dM; rw [hs0.1 39 (by omega) (by omega)]]; exact ⟨hE.2.2.1, hE.2.2.2⟩⟩)
        · skip
          refine x_iconst (v := -1) ⟨by decide, by decide⟩ (dtk dt_X12_two 27 (47, .iconst (-1), 1) rfl) ?_
          refine x_goto (tgt := 70) (dtk dt_X12_two 28 (48, .goto 22, 3) rfl) (by decide) ?_
          exact ru_i (dtk dt_X12_two 40 (70, .ireturn, 1) rfl) rfl (by rw [if_pos hcond]; cases hz : twR (M 38 o) (dM M o) with | none => (first | rfl | (exfalso; rw [hz] at c44; cases c44)) | some z => (first | (exfalso; rw [hz] at c44; cases c44; done) | (show _ = if w = 0 then _ else _; first | (rw [if_pos (by omega)]; exact (hE.2.2.2 z hz i hi.1 hi.2).1) | (rw [if_neg (by omega)]; exact (hE.2.2.2 z hz i hi.1 hi.2).2)))) hs37_1 (Or.inr ⟨hE.1, by rw [hE.2.1, hs0.2 0 (by omega)]; have := c5; unfold isOr at this; simp at this; omega, by rw [hE.2.1]; unfold TWk; rw [show M37_1 38 = M 38 from hs0.1 38 (by omega) (by omega), show dM M37_1 o = dM M o from by unfold dM; rw [hs0.1 39 (by omega) (by omega)]]; exact ⟨hE.2.2.1, hE.2.2.2⟩⟩)
      · skip
        have hcond : ¬ (isOr M o && (decide (0 ≤ w) && decide (w ≤ 1)) && (decide (0 ≤ i) && decide (i < M 38 o))) = true := by (simp at c30; simp; omega)
        refine x_iconst (v := -1) ⟨by decide, by decide⟩ (dtk dt_X12_two 19 (33, .iconst (-1), 1) rfl) ?_
        exact ru_i (dtk dt_X12_two 20 (34, .ireturn, 1) rfl) rfl (by first | (rw [if_neg hcond]; done) | (rw [c5]; rfl) | (rw [c14, Bool.and_false]; rfl)) sd.rf hT
