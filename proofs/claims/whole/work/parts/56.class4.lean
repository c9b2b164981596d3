/-! ===== the class: rows out ===== -/
set_option maxRecDepth 100000 in
set_option maxHeartbeats 4000000 in
theorem c_X3_empty0 {G : GG} {n : Nat} {K : KK} {M : MM} {l : Int} (hk : K l = (0, 3)) : MC G mi_X3_empty 1 0 0 [(1, l)] n K M (PQ none n K (st2 M l 1 0)) := by
  refine MC.intro (lc := [(0, (1, l))]) (by decide) rfl (by simp [Nat.ble]) (Nat.le_of_ble_eq_true rfl) rfl (fun hMR => ?_)
  refine x_aload_n (dtk dt_X3_empty 0 (0, .aload_n 0, 1) rfl) rfl ?_
  refine x_iconst (v := 0) ⟨by decide, by decide⟩ (dtk dt_X3_empty 1 (1, .iconst 0, 1) rfl) ?_
  refine fp_X3_9 rfl (dtk dt_X3_empty 2 (2, .putfield 9, 3) rfl) hk ?_
  exact r_v (dtk dt_X3_empty 3 (5, .return_, 1) rfl) rfl rfl
set_option maxRecDepth 100000 in
set_option maxHeartbeats 4000000 in
theorem c_X6_total {G : GG} {n : Nat} {K : KK} {M : MM} {p nm m : Int} {ci : Nat} {d : Int → Int} (hO : OB K M p ci nm m d) (hR : RC K M) : MC G mi_X6_total 4 0 0 [(1, 9), (1, p)] n K M (UQ sx (some (0, tl m d 0)) n K M (fun M' => RC K M' ∧ CW M' m d)) := by
  refine MC.intro (lc := [(0, (1, 9)), (1, (1, p))]) (by decide) rfl (by simp [Nat.ble]) (Nat.le_of_ble_eq_true rfl) rfl (fun hMR => ?_)
  have hsz := hO.sz
  have hp := p2_b hsz
  refine x_aload_n (dtk dt_X6_total 0 (0, .aload_n 0, 1) rfl) rfl ?_
  refine x_aload_n (dtk dt_X6_total 1 (1, .aload_n 1, 1) rfl) rfl ?_
  refine kc_X6_58 rfl (dtk dt_X6_total 2 (2, .invokevirtual 58, 3) rfl) (c_X6_countWays (G := G)  hO hR) rfl rfl (wk_9 hO.wf) (fitR (by decide) (by decide)) (Nat.le_of_ble_eq_true rfl) (uqK (fun M2_1 hs2_1 hE2_1 => ?_))
  have hE := hE2_1
  refine x_aload_n (dtk dt_X6_total 3 (5, .aload_n 0, 1) rfl) rfl ?_
  refine fg_X6_15 rfl (dtk dt_X6_total 4 (6, .getfield 15, 3) rfl) (wk_9 hO.wf) (wm_9_1 (hO.off_sx hs2_1).wf) ?_
  refine x_iconst (v := 0) ⟨by decide, by decide⟩ (dtk dt_X6_total 5 (9, .iconst 0, 1) rfl) ?_
  refine x_iald (dtk dt_X6_total 6 (10, .iaload, 1) rfl) (wk_11 hO.wf) ⟨by omega, by omega⟩ ?_
  rw [(hE.2 0 (by omega) (by omega)).2, fw_tl (by rw [wy_00 hsz]; decide)]
  exact ru_i (dtk dt_X6_total 7 (11, .ireturn, 1) rfl) rfl rfl hs2_1 hE
set_option maxRecDepth 100000 in
set_option maxHeartbeats 4000000 in
theorem c_X6_hasRank {G : GG} {n : Nat} {K : KK} {M : MM} {rk : Int} {p nm m : Int} {ci : Nat} {d : Int → Int} (hO : OB K M p ci nm m d) (hR : RC K M) : MC G mi_X6_hasRank 5 0 0 [(1, 9), (1, p), (0, rk)] n K M (UQ sx (some (0, B (decide (0 ≤ rk) && decide (rk < tl m d 0)))) n K M (fun M' => RC K M')) := by
  refine MC.intro (lc := [(0, (1, 9)), (1, (1, p)), (2, (0, rk))]) (by decide) rfl (by simp [Nat.ble]) (Nat.le_of_ble_eq_true rfl) rfl (fun hMR => ?_)
  refine x_iload_n (dtk dt_X6_hasRank 0 (0, .iload_n 2, 1) rfl) rfl ?_
  refine x_if_lt (tgt := 17) (dtk dt_X6_hasRank 1 (1, .ifCond .lt 16, 3) rfl) (by decide) (fun c1 => ?_) (fun c1 => ?_)
  · skip
    refine x_iconst (v := 0) ⟨by decide, by decide⟩ (dtk dt_X6_hasRank 9 (17, .iconst 0, 1) rfl) ?_
    exact ru_b (b := false) (dtk dt_X6_hasRank 10 (18, .ireturn, 1) rfl) rfl (by simp; omega) sx.rf (by first | exact hE.1 | exact hR)
  · skip
    refine x_iload_n (dtk dt_X6_hasRank 2 (4, .iload_n 2, 1) rfl) rfl ?_
    refine x_aload_n (dtk dt_X6_hasRank 3 (5, .aload_n 0, 1) rfl) rfl ?_
    refine x_aload_n (dtk dt_X6_hasRank 4 (6, .aload_n 1, 1) rfl) rfl ?_
    refine kc_X6_62 rfl (dtk dt_X6_hasRank 5 (7, .invokevirtual 62, 3) rfl) (c_X6_total (G := G)  hO hR) rfl rfl (wk_9 hO.wf) (fitR (by decide) (by decide)) (Nat.le_of_ble_eq_true rfl) (uqK (fun M7_1 hs7_1 hE7_1 => ?_))
    have hE := hE7_1
    refine x_icmp_ge (tgt := 17) (dtk dt_X6_hasRank 6 (10, .if_icmp .ge 7, 3) rfl) (by decide) (fun c10 => ?_) (fun c10 => ?_)
    · skip
      refine x_iconst (v := 0) ⟨by decide, by decide⟩ (dtk dt_X6_hasRank 9 (17, .iconst 0, 1) rfl) ?_
      exact ru_b (b := false) (dtk dt_X6_hasRank 10 (18, .ireturn, 1) rfl) rfl (by simp; omega) hs7_1 (by first | exact hE.1 | exact hR)
    · skip
      refine x_iconst (v := 1) ⟨by decide, by decide⟩ (dtk dt_X6_hasRank 7 (13, .iconst 1, 1) rfl) ?_
      refine x_goto (tgt := 18) (dtk dt_X6_hasRank 8 (14, .goto 4, 3) rfl) (by decide) ?_
      exact ru_b (b := true) (dtk dt_X6_hasRank 10 (18, .ireturn, 1) rfl) rfl (by simp; omega) hs7_1 (by first | exact hE.1 | exact hR)
set_option maxRecDepth 100000 in
set_option maxHeartbeats 4000000 in
theorem c_X6_lowSetCount {G : GG} {n : Nat} {K : KK} {M : MM} {p nm m : Int} {ci : Nat} {d : Int → Int} (hO : OB K M p ci nm m d) (hR : RC K M) : MC G mi_X6_lowSetCount 4 0 0 [(1, 9), (1, p)] n K M (UQ sx (some (0, lowNC m d)) n K M (fun M' => RC K M')) := by
  refine MC.intro (lc := [(0, (1, 9)), (1, (1, p))]) (by decide) rfl (by simp [Nat.ble]) (Nat.le_of_ble_eq_true rfl) rfl (fun hMR => ?_)
  have hsz := hO.sz
  have hp := p2_b hsz
  refine x_aload_n (dtk dt_X6_lowSetCount 0 (0, .aload_n 0, 1) rfl) rfl ?_
  refine x_aload_n (dtk dt_X6_lowSetCount 1 (1, .aload_n 1, 1) rfl) rfl ?_
  refine kc_X6_58 rfl (dtk dt_X6_lowSetCount 2 (2, .invokevirtual 58, 3) rfl) (c_X6_countWays (G := G)  hO hR) rfl rfl (wk_9 hO.wf) (fitR (by decide) (by decide)) (Nat.le_of_ble_eq_true rfl) (uqK (fun M2_1 hs2_1 hE2_1 => ?_))
  have hE := hE2_1
  have hs0 := hs2_1
  refine x_aload_n (dtk dt_X6_lowSetCount 3 (5, .aload_n 1, 1) rfl) rfl ?_
  refine kc_X6_40 rfl (dtk dt_X6_lowSetCount 4 (6, .invokevirtual 40, 3) rfl) (c_X4_all (G := G)  (hO.off_sx hs2_1)) rfl rfl hO.k hO.c (fitR (by decide) (by decide)) (Nat.le_of_ble_eq_true rfl) (pqK ?_)
  refine x_istore_n (dtk dt_X6_lowSetCount 5 (9, .istore_n 2, 1) rfl) (by decide) ?_
  refine x_iconst (v := 0) ⟨by decide, by decide⟩ (dtk dt_X6_lowSetCount 6 (10, .iconst 0, 1) rfl) ?_
  refine x_istore_n (dtk dt_X6_lowSetCount 7 (11, .istore_n 3, 1) rfl) (by decide) ?_
  refine x_iconst (v := 0) ⟨by decide, by decide⟩ (dtk dt_X6_lowSetCount 8 (12, .iconst 0, 1) rfl) ?_
  refine x_istore (dtk dt_X6_lowSetCount 9 (13, .istore 4, 2) rfl) (by decide) ?_
  have L15 : ∀ (fu : Nat) (v3 : Int) (v4 : Int), (0 ≤ v4 ∧ v4 ≤ p2 m) → (v3 = sumZ v4 (fun s => B (wyP m d s))) → (p2 m - v4).toNat = fu → MW G mi_X6_lowSetCount (rmd 4 0 0) (MZ G (UQ sx (some (0, lowNC m d)) n K M (fun M' => RC K M')) 0 0) (0, 0) 15 [(0, (1, 9)), (1, (1, p)), (2, (0, p2 m - 1)), (3, (0, v3)), (4, (0, v4))] [] n K (M2_1) := by
    intro fu
    induction fu using Nat.strongRecOn with
    | ind fu ih15 =>
      intro v3 v4 h1 h2 hk15
      have hb := sumZ_b01 h1.1 (wyP m d)
      rw [← h2] at hb
      refine x_iload (dtk dt_X6_lowSetCount 10 (15, .iload 4, 2) rfl) rfl ?_
      refine x_iload_n (dtk dt_X6_lowSetCount 11 (17, .iload_n 2, 1) rfl) rfl ?_
      refine x_icmp_gt (tgt := 40) (dtk dt_X6_lowSetCount 12 (18, .if_icmp .gt 22, 3) rfl) (by decide) (fun c18 => ?_) (fun c18 => ?_)
      · skip
        refine x_iload_n (dtk dt_X6_lowSetCount 21 (40, .iload_n 3, 1) rfl) rfl ?_
        exact ru_i (dtk dt_X6_lowSetCount 22 (41, .ireturn, 1) rfl) rfl (by rw [h2, show v4 = p2 m by omega]; rfl) hs2_1 hE.1
      · skip
        refine x_aload_n (dtk dt_X6_lowSetCount 13 (21, .aload_n 0, 1) rfl) rfl ?_
        refine fg_X6_9 rfl (dtk dt_X6_lowSetCount 14 (22, .getfield 9, 3) rfl) (wk_9 hO.wf) (wm_9_0 (hO.off_sx hs2_1).wf) ?_
        refine x_iload (dtk dt_X6_lowSetCount 15 (25, .iload 4, 2) rfl) rfl ?_
        refine x_iald (dtk dt_X6_lowSetCount 16 (27, .iaload, 1) rfl) (wk_10 hO.wf) ⟨by omega, by omega⟩ ?_
        rw [(hE.2 v4 (by omega) (by omega)).1]
        refine x_if_eq (tgt := 34) (dtk dt_X6_lowSetCount 17 (28, .ifCond .eq 6, 3) rfl) (by decide) (fun c28 => ?_) (fun c28 => ?_)
        · skip
          refine y_iinc (dtk dt_X6_lowSetCount 19 (34, .iinc 4 1, 3) rfl) rfl (by decide) ⟨by omega, by omega⟩ ?_
          refine x_goto (tgt := 15) (dtk dt_X6_lowSetCount 20 (37, .goto (-22), 3) rfl) (by decide) ?_
          refine MW.sub [1, 2, 3, 4, 0] rfl ?_
          exact ih15 _ (by omega) _ _ (by omega) (by rw [sumZ_s h1.1, ← h2]; unfold wyP; first | (rw [decide_eq_true c28]; rfl) | (rw [decide_eq_false (by omega)]; show _ = v3 + 0; omega)) rfl
        · skip
          refine y_iinc (dtk dt_X6_lowSetCount 18 (31, .iinc 3 1, 3) rfl) rfl (by decide) ⟨by omega, by omega⟩ ?_
          refine y_iinc (dtk dt_X6_lowSetCount 19 (34, .iinc 4 1, 3) rfl) rfl (by decide) ⟨by omega, by omega⟩ ?_
          refine x_goto (tgt := 15) (dtk dt_X6_lowSetCount 20 (37, .goto (-22), 3) rfl) (by decide) ?_
          refine MW.sub [2, 3, 4, 1, 0] rfl ?_
          exact ih15 _ (by omega) _ _ (by omega) (by rw [sumZ_s h1.1, ← h2]; unfold wyP; first | (rw [decide_eq_true c28]; rfl) | (rw [decide_eq_false (by omega)]; show _ = v3 + 0; omega)) rfl
  refine MW.sub [3, 4, 2, 1, 0] rfl ?_
  exact L15 _ _ _ (by omega) rfl rfl
set_option maxRecDepth 100000 in
set_option maxHeartbeats 4000000 in
theorem c_X6_lowSet {G : GG} {n : Nat} {K : KK} {M : MM} {i : Int} {p nm m : Int} {ci : Nat} {d : Int → Int} (hO : OB K M p ci nm m d) (hR : RC K M) : MC G mi_X6_lowSet 4 0 0 [(1, 9), (1, p), (0, i)] n K M (UQ sx (some (0, nth (p2 m) (wyP m d) 0 i)) n K M (fun M' => RC K M')) := by
  refine MC.intro (lc := [(0, (1, 9)), (1, (1, p)), (2, (0, i))]) (by decide) rfl (by simp [Nat.ble]) (Nat.le_of_ble_eq_true rfl) rfl (fun hMR => ?_)
  have hsz := hO.sz
  have hp := p2_b hsz
  refine x_aload_n (dtk dt_X6_lowSet 0 (0, .aload_n 0, 1) rfl) rfl ?_
  refine x_aload_n (dtk dt_X6_lowSet 1 (1, .aload_n 1, 1) rfl) rfl ?_
  refine kc_X6_58 rfl (dtk dt_X6_lowSet 2 (2, .invokevirtual 58, 3) rfl) (c_X6_countWays (G := G)  hO hR) rfl rfl (wk_9 hO.wf) (fitR (by decide) (by decide)) (Nat.le_of_ble_eq_true rfl) (uqK (fun M2_1 hs2_1 hE2_1 => ?_))
  have hE := hE2_1
  have hs0 := hs2_1
  refine x_aload_n (dtk dt_X6_lowSet 3 (5, .aload_n 1, 1) rfl) rfl ?_
  refine kc_X6_40 rfl (dtk dt_X6_lowSet 4 (6, .invokevirtual 40, 3) rfl) (c_X4_all (G := G)  (hO.off_sx hs2_1)) rfl rfl hO.k hO.c (fitR (by decide) (by decide)) (Nat.le_of_ble_eq_true rfl) (pqK ?_)
  refine x_istore_n (dtk dt_X6_lowSet 5 (9, .istore_n 3, 1) rfl) (by decide) ?_
  refine x_iconst (v := 0) ⟨by decide, by decide⟩ (dtk dt_X6_lowSet 6 (10, .iconst 0, 1) rfl) ?_
  refine x_istore (dtk dt_X6_lowSet 7 (11, .istore 4, 2) rfl) (by decide) ?_
  refine x_iconst (v := 0) ⟨by decide, by decide⟩ (dtk dt_X6_lowSet 8 (13, .iconst 0, 1) rfl) ?_
  refine x_istore (dtk dt_X6_lowSet 9 (14, .istore 5, 2) rfl) (by decide) ?_
  have L16 : ∀ (fu : Nat) (v4 : Int) (v5 : Int), (0 ≤ v5 ∧ v5 ≤ p2 m) → (0 ≤ v4 ∧ v4 ≤ v5) → (nth (p2 m) (wyP m d) v5 (i - v4) = nth (p2 m) (wyP m d) 0 i) → (p2 m - v5).toNat = fu → MW G mi_X6_lowSet (rmd 4 0 0) (MZ G (UQ sx (some (0, nth (p2 m) (wyP m d) 0 i)) n K M (fun M' => RC K M')) 0 0) (0, 0) 16 [(0, (1, 9)), (1, (1, p)), (2, (0, i)), (3, (0, p2 m - 1)), (4, (0, v4)), (5, (0, v5))] [] n K (M2_1) := by
    intro fu
    induction fu using Nat.strongRecOn with
    | ind fu ih16 =>
      intro v4 v5 h1 hb h2 hk16
      refine x_iload (dtk dt_X6_lowSet 10 (16, .iload 5, 2) rfl) rfl ?_
      refine x_iload_n (dtk dt_X6_lowSet 11 (18, .iload_n 3, 1) rfl) rfl ?_
      refine x_icmp_gt (tgt := 50) (dtk dt_X6_lowSet 12 (19, .if_icmp .gt 31, 3) rfl) (by decide) (fun c19 => ?_) (fun c19 => ?_)
      · skip
        refine x_iconst (v := -1) ⟨by decide, by decide⟩ (dtk dt_X6_lowSet 26 (50, .iconst (-1), 1) rfl) ?_
        exact ru_i (dtk dt_X6_lowSet 27 (51, .ireturn, 1) rfl) rfl (by rw [nth_e (by omega)] at h2; exact h2) hs2_1 hE.1
      · skip
        refine x_aload_n (dtk dt_X6_lowSet 13 (22, .aload_n 0, 1) rfl) rfl ?_
        refine fg_X6_9 rfl (dtk dt_X6_lowSet 14 (23, .getfield 9, 3) rfl) (wk_9 hO.wf) (wm_9_0 (hO.off_sx hs2_1).wf) ?_
        refine x_iload (dtk dt_X6_lowSet 15 (26, .iload 5, 2) rfl) rfl ?_
        refine x_iald (dtk dt_X6_lowSet 16 (28, .iaload, 1) rfl) (wk_10 hO.wf) ⟨by omega, by omega⟩ ?_
        rw [(hE.2 v5 (by omega) (by omega)).1]
        refine x_if_eq (tgt := 44) (dtk dt_X6_lowSet 17 (29, .ifCond .eq 15, 3) rfl) (by decide) (fun c29 => ?_) (fun c29 => ?_)
        · skip
          refine y_iinc (dtk dt_X6_lowSet 24 (44, .iinc 5 1, 3) rfl) rfl (by decide) ⟨by omega, by omega⟩ ?_
          refine x_goto (tgt := 16) (dtk dt_X6_lowSet 25 (47, .goto (-31), 3) rfl) (by decide) ?_
          refine MW.sub [1, 2, 3, 4, 5, 0] rfl ?_
          exact ih16 _ (by omega) _ _ (by omega) (by omega) (by rw [nth_s (by omega)] at h2; by_cases hi : i - v4 < 0; (rw [if_pos hi] at h2; rw [← h2]; exact nth_neg (by omega) (by omega)); (rw [if_neg hi] at h2; first | (rw [if_neg (by unfold wyP; rw [decide_eq_false (by omega)]; decide)] at h2; exact h2) | (rw [if_pos (by unfold wyP; rw [decide_eq_true c29]), if_neg (by omega)] at h2; rw [show i - (v4 + 1) = i - v4 + -1 by omega]; exact h2))) rfl
        · skip
          refine x_iload (dtk dt_X6_lowSet 18 (32, .iload 4, 2) rfl) rfl ?_
          refine x_iload_n (dtk dt_X6_lowSet 19 (34, .iload_n 2, 1) rfl) rfl ?_
          refine x_icmp_ne (tgt := 41) (dtk dt_X6_lowSet 20 (35, .if_icmp .ne 6, 3) rfl) (by decide) (fun c35 => ?_) (fun c35 => ?_)
          · skip
            refine y_iinc (dtk dt_X6_lowSet 23 (41, .iinc 4 1, 3) rfl) rfl (by decide) ⟨by omega, by omega⟩ ?_
            refine y_iinc (dtk dt_X6_lowSet 24 (44, .iinc 5 1, 3) rfl) rfl (by decide) ⟨by omega, by omega⟩ ?_
            refine x_goto (tgt := 16) (dtk dt_X6_lowSet 25 (47, .goto (-31), 3) rfl) (by decide) ?_
            refine MW.sub [2, 3, 4, 5, 1, 0] rfl ?_
            exact ih16 _ (by omega) _ _ (by omega) (by omega) (by rw [nth_s (by omega)] at h2; by_cases hi : i - v4 < 0; (rw [if_pos hi] at h2; rw [← h2]; exact nth_neg (by omega) (by omega)); (rw [if_neg hi] at h2; first | (rw [if_neg (by unfold wyP; rw [decide_eq_false (by omega)]; decide)] at h2; exact h2) | (rw [if_pos (by unfold wyP; rw [decide_eq_true c29]), if_neg (by omega)] at h2; rw [show i - (v4 + 1) = i - v4 + -1 by omega]; exact h2))) rfl
          · skip
            refine x_iload (dtk dt_X6_lowSet 21 (38, .iload 5, 2) rfl) rfl ?_
            exact ru_i (dtk dt_X6_lowSet 22 (40, .ireturn, 1) rfl) rfl (by rw [nth_s (by omega), if_neg (by omega), if_pos (by unfold wyP; rw [decide_eq_true c29]), if_pos (by omega)] at h2; exact h2) hs2_1 hE.1
  refine MW.sub [3, 4, 5, 2, 1, 0] rfl ?_
  exact L16 _ _ _ (by omega) (by omega) (by rw [Int.sub_zero]) rfl
set_option maxRecDepth 100000 in
set_option maxHeartbeats 4000000 in
theorem c_X6_listLowSets {G : GG} {n : Nat} {K : KK} {M : MM} {p nm m : Int} {ci : Nat} {d : Int → Int} (hO : OB K M p ci nm m d) (hR : RC K M) (hc : lowNC m d ≤ 10) : MC G mi_X6_listLowSets 4 0 0 [(1, 9), (1, p), (1, 26)] n K M (UQ sx none n K M (fun M' => RC K M' ∧ M' 26 1 = lowNC m d ∧ ∀ i, 0 ≤ i → i < lowNC m d → M' 27 i = nth (p2 m) (wyP m d) 0 i)) := by
  refine MC.intro (lc := [(0, (1, 9)), (1, (1, p)), (2, (1, 26))]) (by decide) rfl (by simp [Nat.ble]) (Nat.le_of_ble_eq_true rfl) rfl (fun hMR => ?_)
  have hsz := hO.sz
  have hp := p2_b hsz
  refine x_aload_n (dtk dt_X6_listLowSets 0 (0, .aload_n 0, 1) rfl) rfl ?_
  refine x_aload_n (dtk dt_X6_listLowSets 1 (1, .aload_n 1, 1) rfl) rfl ?_
  refine kc_X6_58 rfl (dtk dt_X6_listLowSets 2 (2, .invokevirtual 58, 3) rfl) (c_X6_countWays (G := G)  hO hR) rfl rfl (wk_9 hO.wf) (fitR (by decide) (by decide)) (Nat.le_of_ble_eq_true rfl) (uqK (fun M2_1 hs2_1 hE2_1 => ?_))
  have hE := hE2_1
  have hs0 := hs2_1
  refine x_aload_n (dtk dt_X6_listLowSets 3 (5, .aload_n 1, 1) rfl) rfl ?_
  refine kc_X6_40 rfl (dtk dt_X6_listLowSets 4 (6, .invokevirtual 40, 3) rfl) (c_X4_all (G := G)  (hO.off_sx hs2_1)) rfl rfl hO.k hO.c (fitR (by decide) (by decide)) (Nat.le_of_ble_eq_true rfl) (pqK ?_)
  refine x_istore_n (dtk dt_X6_listLowSets 5 (9, .istore_n 3, 1) rfl) (by decide) ?_
  refine x_aload_n (dtk dt_X6_listLowSets 6 (10, .aload_n 2, 1) rfl) rfl ?_
  refine kc_X6_66 rfl (dtk dt_X6_listLowSets 7 (11, .invokevirtual 66, 3) rfl) (c_X3_empty0 (G := G)  (wk_26 hO.wf)) rfl rfl (wk_26 hO.wf) (fitR (by decide) (by decide)) (Nat.le_of_ble_eq_true rfl) (pqK ?_)
  refine x_iconst (v := 0) ⟨by decide, by decide⟩ (dtk dt_X6_listLowSets 8 (14, .iconst 0, 1) rfl) ?_
  refine x_istore (dtk dt_X6_listLowSets 9 (15, .istore 4, 2) rfl) (by decide) ?_
  have L17 : ∀ (fu : Nat) (v4 : Int) (M3 : MM), (0 ≤ v4 ∧ v4 ≤ p2 m) → (sx M M3) → (kp M2_1 M3) → (M3 26 1 = sumZ v4 (fun s => B (wyP m d s))) → (∀ i, 0 ≤ i → i < sumZ v4 (fun s => B (wyP m d s)) → M3 27 i = nth (p2 m) (wyP m d) 0 i) → (p2 m - v4).toNat = fu → MW G mi_X6_listLowSets (rmd 4 0 0) (MZ G (UQ sx none n K M (fun M' => RC K M' ∧ M' 26 1 = lowNC m d ∧ ∀ i, 0 ≤ i → i < lowNC m d → M' 27 i = nth (p2 m) (wyP m d) 0 i)) 0 0) (0, 0) 17 [(0, (1, 9)), (1, (1, p)), (2, (1, 26)), (3, (0, p2 m - 1)), (4, (0, v4))] [] n K (M3) := by
    intro fu
    induction fu using Nat.strongRecOn with
    | ind fu ih17 =>
      intro v4 M3 h1 hs3 hkp h2 h4 hk17
      have hb := sumZ_b01 h1.1 (wyP m d)
      refine x_iload (dtk dt_X6_listLowSets 10 (17, .iload 4, 2) rfl) rfl ?_
      refine x_iload_n (dtk dt_X6_listLowSets 11 (19, .iload_n 3, 1) rfl) rfl ?_
      refine x_icmp_gt (tgt := 45) (dtk dt_X6_listLowSets 12 (20, .if_icmp .gt 25, 3) rfl) (by decide) (fun c20 => ?_) (fun c20 => ?_)
      · skip
        exact ru_v (dtk dt_X6_listLowSets 23 (45, .return_, 1) rfl) rfl hs3 (by rw [show v4 = p2 m by omega] at h2 h4; exact ⟨hE.1.kp (fun x hx => by rw [hs3.hi x hx, hs0.hi x hx]) hkp, h2, h4⟩)
      · skip
        refine x_aload_n (dtk dt_X6_listLowSets 13 (23, .aload_n 0, 1) rfl) rfl ?_
        refine fg_X6_9 rfl (dtk dt_X6_listLowSets 14 (24, .getfield 9, 3) rfl) (wk_9 hO.wf) (wm_9_0 (hO.off_sx hs3).wf) ?_
        refine x_iload (dtk dt_X6_listLowSets 15 (27, .iload 4, 2) rfl) rfl ?_
        refine x_iald (dtk dt_X6_listLowSets 16 (29, .iaload, 1) rfl) (wk_10 hO.wf) ⟨by omega, by omega⟩ ?_
        rw [hkp.2.1, (hE.2 v4 (by omega) (by omega)).1]
        refine x_if_eq (tgt := 39) (dtk dt_X6_listLowSets 17 (30, .ifCond .eq 9, 3) rfl) (by decide) (fun c30 => ?_) (fun c30 => ?_)
        · skip
          refine y_iinc (dtk dt_X6_listLowSets 21 (39, .iinc 4 1, 3) rfl) rfl (by decide) ⟨by omega, by omega⟩ ?_
          refine x_goto (tgt := 17) (dtk dt_X6_listLowSets 22 (42, .goto (-25), 3) rfl) (by decide) ?_
          refine MW.sub [1, 2, 3, 4, 0] rfl ?_
          exact ih17 _ (by omega) _ _ (by omega) hs3 (by first | exact hkp | exact kp.st 26 rfl (kp.st 27 rfl hkp)) (by rw [sumZ_s h1.1]; first | (rw [st2_self, h2]; unfold wyP; rw [decide_eq_true c30]; rfl) | (rw [h2]; unfold wyP; rw [decide_eq_false (show ¬ wy m d v4 ≠ 0 by omega)]; show _ = _ + (0 : Int); omega)) (fun i i0 i1 => by rw [sumZ_s h1.1] at i1; have i2 : i < sumZ v4 (fun s => B (wyP m d s)) + B (wyP m d v4) := i1; first | (rw [st2_ne _ (show (27 : Int) ≠ 26 by decide), st2_up]; show (if i = M3 26 1 then _ else _) = _; rw [h2]; by_cases hq : i = sumZ v4 (fun s => B (wyP m d s)); (focus (rw [if_pos hq, hq]; exact (nth_cnt ⟨h1.1, by omega⟩ (by unfold wyP; rw [decide_eq_true c30])).symm)); (rw [if_neg hq]; exact h4 i i0 (by have hB := B_01 (wyP m d v4); omega))) | exact h4 i i0 (by have hz : B (wyP m d v4) = 0 := (by unfold wyP; rw [decide_eq_false (by omega)]; rfl); omega)) rfl
        · skip
          have hlt : sumZ v4 (fun s => B (wyP m d s)) + 1 ≤ lowNC m d := sum_lt (by omega) (by unfold wyP; rw [decide_eq_true c30])
          refine x_aload_n (dtk dt_X6_listLowSets 18 (33, .aload_n 2, 1) rfl) rfl ?_
          refine x_iload (dtk dt_X6_listLowSets 19 (34, .iload 4, 2) rfl) rfl ?_
          refine kc_X6_71 rfl (dtk dt_X6_listLowSets 20 (36, .invokevirtual 71, 3) rfl) (c_X3_add (G := G)  (ln_26 (hO.off_sx hs3).wf (by omega))) rfl rfl (wk_26 hO.wf) (fitR (by decide) (by decide)) (Nat.le_of_ble_eq_true rfl) (pqK ?_)
          rw [add_26 (by omega)]
          refine y_iinc (dtk dt_X6_listLowSets 21 (39, .iinc 4 1, 3) rfl) rfl (by decide) ⟨by omega, by omega⟩ ?_
          refine x_goto (tgt := 17) (dtk dt_X6_listLowSets 22 (42, .goto (-25), 3) rfl) (by decide) ?_
          refine MW.sub [1, 2, 3, 4, 0] rfl ?_
          exact ih17 _ (by omega) _ _ (by omega) (sx.fd 26 1 rfl (sx.st 27 rfl hs3)) (by first | exact hkp | exact kp.st 26 rfl (kp.st 27 rfl hkp)) (by rw [sumZ_s h1.1]; first | (rw [st2_self, h2]; unfold wyP; rw [decide_eq_true c30]; rfl) | (rw [h2]; unfold wyP; rw [decide_eq_false (show ¬ wy m d v4 ≠ 0 by omega)]; show _ = _ + (0 : Int); omega)) (fun i i0 i1 => by rw [sumZ_s h1.1] at i1; have i2 : i < sumZ v4 (fun s => B (wyP m d s)) + B (wyP m d v4) := i1; first | (rw [st2_ne _ (show (27 : Int) ≠ 26 by decide), st2_up]; show (if i = M3 26 1 then _ else _) = _; rw [h2]; by_cases hq : i = sumZ v4 (fun s => B (wyP m d s)); (focus (rw [if_pos hq, hq]; exact (nth_cnt ⟨h1.1, by omega⟩ (by unfold wyP; rw [decide_eq_true c30])).symm)); (rw [if_neg hq]; exact h4 i i0 (by have hB := B_01 (wyP m d v4); omega))) | exact h4 i i0 (by have hz : B (wyP m d v4) = 0 := (by unfold wyP; rw [decide_eq_false (by omega)]; rfl); omega)) rfl
  refine MW.sub [2, 3, 4, 1, 0] rfl ?_
  exact L17 _ _ _ (by omega) (sx.fd 26 1 rfl hs0) (kp.st 26 rfl kp.rf) (by rw [st2_self]; rfl) (fun i i0 i1 => by rw [sumZ_0] at i1; omega) rfl
set_option maxRecDepth 100000 in
set_option maxHeartbeats 4000000 in
theorem c_X6_tellRow {G : GG} {n : Nat} {K : KK} {M : MM} {rk : Int} {p nm m : Int} {ci : Nat} {d : Int → Int} (hO : OB K M p ci nm m d) (hR : RC K M) (hrk : 0 ≤ rk ∧ rk < tl m d 0) : MC G mi_X6_tellRow 4 0 0 [(1, 9), (1, p), (0, rk), (1, 26)] n K M (UQ sx none n K M (fun M' => RC K M' ∧ M' 26 1 = m ∧ ∀ k, 0 ≤ k → k < m → M' 27 k = fdO m d rk k)) := by
  refine MC.intro (lc := [(0, (1, 9)), (1, (1, p)), (2, (0, rk)), (3, (1, 26))]) (by decide) rfl (by simp [Nat.ble]) (Nat.le_of_ble_eq_true rfl) rfl (fun hMR => ?_)
  have hsz := hO.sz
  have hp := p2_b hsz
  refine x_aload_n (dtk dt_X6_tellRow 0 (0, .aload_n 0, 1) rfl) rfl ?_
  refine x_aload_n (dtk dt_X6_tellRow 1 (1, .aload_n 1, 1) rfl) rfl ?_
  refine kc_X6_58 rfl (dtk dt_X6_tellRow 2 (2, .invokevirtual 58, 3) rfl) (c_X6_countWays (G := G)  hO hR) rfl rfl (wk_9 hO.wf) (fitR (by decide) (by decide)) (Nat.le_of_ble_eq_true rfl) (uqK (fun M2_1 hs2_1 hE2_1 => ?_))
  have hE := hE2_1
  have hs0 := hs2_1
  refine x_aload_n (dtk dt_X6_tellRow 3 (5, .aload_n 3, 1) rfl) rfl ?_
  refine kc_X6_66 rfl (dtk dt_X6_tellRow 4 (6, .invokevirtual 66, 3) rfl) (c_X3_empty0 (G := G)  (wk_26 hO.wf)) rfl rfl (wk_26 hO.wf) (fitR (by decide) (by decide)) (Nat.le_of_ble_eq_true rfl) (pqK ?_)
  refine x_iconst (v := 0) ⟨by decide, by decide⟩ (dtk dt_X6_tellRow 5 (9, .iconst 0, 1) rfl) ?_
  refine x_istore (dtk dt_X6_tellRow 6 (10, .istore 4, 2) rfl) (by decide) ?_
  refine x_iload_n (dtk dt_X6_tellRow 7 (12, .iload_n 2, 1) rfl) rfl ?_
  refine x_istore (dtk dt_X6_tellRow 8 (13, .istore 5, 2) rfl) (by decide) ?_
  refine x_iconst (v := 0) ⟨by decide, by decide⟩ (dtk dt_X6_tellRow 9 (15, .iconst 0, 1) rfl) ?_
  refine x_istore (dtk dt_X6_tellRow 10 (16, .istore 6, 2) rfl) (by decide) ?_
  have L18 : ∀ (fu : Nat) (v4 : Int) (v5 : Int) (v6 : Int) (M3 : MM), (0 ≤ v6 ∧ v6 ≤ m) → (0 ≤ v4 ∧ v4 < p2 m) → (cnt v4 = v6) → (wy m d v4 ≠ 0) → (0 ≤ v5 ∧ v5 < tl m d v4) → (fdS m d rk v6 = (v4, v5)) → (sx M M3) → (kp M2_1 M3) → (M3 26 1 = v6) → (∀ k, 0 ≤ k → k < v6 → M3 27 k = fdO m d rk k) → (m - v6).toNat = fu → MW G mi_X6_tellRow (rmd 4 0 0) (MZ G (UQ sx none n K M (fun M' => RC K M' ∧ M' 26 1 = m ∧ ∀ k, 0 ≤ k → k < m → M' 27 k = fdO m d rk k)) 0 0) (0, 0) 18 [(0, (1, 9)), (1, (1, p)), (2, (0, rk)), (3, (1, 26)), (4, (0, v4)), (5, (0, v5)), (6, (0, v6))] [] n K (M3) := by
    intro fu
    induction fu using Nat.strongRecOn with
    | ind fu ih18 =>
      intro v4 v5 v6 M3 h1 h2 h3 hwn h4 h5 hs3 hkp h6 hO2 hk18
      refine x_iload (dtk dt_X6_tellRow 11 (18, .iload 6, 2) rfl) rfl ?_
      refine x_aload_n (dtk dt_X6_tellRow 12 (20, .aload_n 1, 1) rfl) rfl ?_
      refine fg_X6_51 rfl (dtk dt_X6_tellRow 13 (21, .getfield 51, 3) rfl) hO.k hO.c (hO.off_sx hs3).n ?_
      refine x_icmp_ge (tgt := 108) (dtk dt_X6_tellRow 14 (24, .if_icmp .ge 84, 3) rfl) (by decide) (fun c24 => ?_) (fun c24 => ?_)
      · skip
        exact ru_v (dtk dt_X6_tellRow 56 (108, .return_, 1) rfl) rfl hs3 ⟨hE.1.kp (fun x hx => by rw [hs3.hi x hx, hs0.hi x hx]) hkp, by omega, fun k k0 k1 => hO2 k k0 (by omega)⟩
      · skip
        have hna := all_of_cnt hsz h2 (by omega)
        have hsum := ly_sum (d := d) (a := 0) (b := 0) hsz h2
        rw [show B (decide (v4 = p2 m - 1)) = 0 by simp [hna, B], Int.zero_add] at hsum
        change tl m d v4 = sumZ m (fun c => if can d v4 c then tl m d (plus v4 c) else 0) at hsum
        refine x_iconst (v := 0) ⟨by decide, by decide⟩ (dtk dt_X6_tellRow 15 (27, .iconst 0, 1) rfl) ?_
        refine x_istore (dtk dt_X6_tellRow 16 (28, .istore 7, 2) rfl) (by decide) ?_
        have L30 : ∀ (fu : Nat) (w5 : Int) (v7 : Int), (0 ≤ v7 ∧ v7 ≤ m) → (0 ≤ w5 ∧ w5 ≤ v5) → (w5 = v5 - sumZ v7 (fun c => if can d v4 c then tl m d (plus v4 c) else 0)) → (fdN m d v4 (m - v7).toNat w5 v7 = fd m d v4 v5) → (m - v7).toNat = fu → MW G mi_X6_tellRow (rmd 4 0 0) (MZ G (UQ sx none n K M (fun M' => RC K M' ∧ M' 26 1 = m ∧ ∀ k, 0 ≤ k → k < m → M' 27 k = fdO m d rk k)) 0 0) (0, 0) 30 [(0, (1, 9)), (1, (1, p)), (2, (0, rk)), (3, (1, 26)), (4, (0, v4)), (5, (0, w5)), (6, (0, v6)), (7, (0, v7))] [] n K (M3) := by
          intro fu
          induction fu using Nat.strongRecOn with
          | ind fu ih30 =>
            intro w5 v7 g1 g3 g4 g5 hk30
            refine x_iload (dtk dt_X6_tellRow 17 (30, .iload 7, 2) rfl) rfl ?_
            refine x_aload_n (dtk dt_X6_tellRow 18 (32, .aload_n 1, 1) rfl) rfl ?_
            refine fg_X6_51 rfl (dtk dt_X6_tellRow 19 (33, .getfield 51, 3) rfl) hO.k hO.c (hO.off_sx hs3).n ?_
            refine x_icmp_ge (tgt := 102) (dtk dt_X6_tellRow 20 (36, .if_icmp .ge 66, 3) rfl) (by decide) (fun c36 => ?_) (fun c36 => ?_)
            · skip
              exfalso
              rw [show v7 = m by omega, ← hsum] at g4
              omega
            · skip
              have hpl := plus_in (c := v7) hsz h2 ⟨g1.1, (by omega : v7 < m)⟩
              have htp := tl_b (d := d) hsz hpl
              have htv := tl_b (d := d) hsz h2
              refine x_aload_n (dtk dt_X6_tellRow 21 (39, .aload_n 1, 1) rfl) rfl ?_
              refine x_iload (dtk dt_X6_tellRow 22 (40, .iload 4, 2) rfl) rfl ?_
              refine x_iload (dtk dt_X6_tellRow 23 (42, .iload 7, 2) rfl) rfl ?_
              refine kc_X6_54 rfl (dtk dt_X6_tellRow 24 (44, .invokestatic 54, 3) rfl) (c_X6_canFollow (G := G)  (hO.off_sx hs3) ⟨by omega, by omega⟩ (by omega)) rfl rfl (fitR (by decide) (by decide)) (Nat.le_of_ble_eq_true rfl) (pqK ?_)
              refine x_if_eqB (tgt := 96) (dtk dt_X6_tellRow 25 (47, .ifCond .eq 49, 3) rfl) (by decide) (fun c47 => ?_) (fun c47 => ?_)
              · skip
                refine y_iinc (dtk dt_X6_tellRow 52 (96, .iinc 7 1, 3) rfl) rfl (by decide) ⟨by omega, by omega⟩ ?_
                refine x_goto (tgt := 30) (dtk dt_X6_tellRow 53 (99, .goto (-69), 3) rfl) (by decide) ?_
                refine MW.sub [1, 2, 3, 4, 5, 6, 7, 0] rfl ?_
                exact ih30 _ (by omega) _ _ (by omega) (by omega) (by rw [sumZ_s (by omega)]; first | (rw [if_pos c47]; omega) | (rw [if_neg (by rw [c47]; decide)]; omega)) (by rw [fdN_s (by omega)] at g5; first | (rw [if_neg (by simp [c47]; omega), if_pos c47] at g5; exact g5) | (rw [if_neg (by simp [c47]), if_neg (by rw [c47]; decide), Int.sub_zero] at g5; exact g5)) rfl
              · skip
                have hwp := wy_up hsz h2 ⟨g1.1, (by omega : v7 < m)⟩ hwn c47
                refine x_aload_n (dtk dt_X6_tellRow 26 (50, .aload_n 0, 1) rfl) rfl ?_
                refine fg_X6_15 rfl (dtk dt_X6_tellRow 27 (51, .getfield 15, 3) rfl) (wk_9 hO.wf) (wm_9_1 (hO.off_sx hs3).wf) ?_
                refine x_iload (dtk dt_X6_tellRow 28 (54, .iload 4, 2) rfl) rfl ?_
                refine x_iconst (v := 1) ⟨by decide, by decide⟩ (dtk dt_X6_tellRow 29 (56, .iconst 1, 1) rfl) ?_
                refine x_iload (dtk dt_X6_tellRow 30 (57, .iload 7, 2) rfl) rfl ?_
                refine x_ishl (dtk dt_X6_tellRow 31 (59, .ishl, 1) rfl) ?_
                refine x_ior (dtk dt_X6_tellRow 32 (60, .ior, 1) rfl) ?_
                change MW G _ _ _ _ _ _ ((0, plus v4 v7) :: _) _ _ _
                refine x_iald (dtk dt_X6_tellRow 33 (61, .iaload, 1) rfl) (wk_11 hO.wf) ⟨by omega, by omega⟩ ?_
                rw [hkp.2.2, (hE.2 _ hpl.1 hpl.2).2, fw_tl hwp]
                refine x_istore (dtk dt_X6_tellRow 34 (62, .istore 8, 2) rfl) (by decide) ?_
                refine x_iload (dtk dt_X6_tellRow 35 (64, .iload 5, 2) rfl) rfl ?_
                refine x_iload (dtk dt_X6_tellRow 36 (66, .iload 8, 2) rfl) rfl ?_
                refine x_icmp_ge (tgt := 89) (dtk dt_X6_tellRow 37 (68, .if_icmp .ge 21, 3) rfl) (by decide) (fun c68 => ?_) (fun c68 => ?_)
                · skip
                  refine x_iload (dtk dt_X6_tellRow 48 (89, .iload 5, 2) rfl) rfl ?_
                  refine x_iload (dtk dt_X6_tellRow 49 (91, .iload 8, 2) rfl) rfl ?_
                  refine y_isub (dtk dt_X6_tellRow 50 (93, .isub, 1) rfl) ⟨by omega, by omega⟩ ?_
                  refine x_istore (dtk dt_X6_tellRow 51 (94, .istore 5, 2) rfl) (by decide) ?_
                  refine y_iinc (dtk dt_X6_tellRow 52 (96, .iinc 7 1, 3) rfl) rfl (by decide) ⟨by omega, by omega⟩ ?_
                  refine x_goto (tgt := 30) (dtk dt_X6_tellRow 53 (99, .goto (-69), 3) rfl) (by decide) ?_
                  refine MW.sub [3, 4, 5, 6, 7, 1, 8, 0] rfl ?_
                  exact ih30 _ (by omega) _ _ (by omega) (by omega) (by rw [sumZ_s (by omega)]; first | (rw [if_pos c47]; omega) | (rw [if_neg (by rw [c47]; decide)]; omega)) (by rw [fdN_s (by omega)] at g5; first | (rw [if_neg (by simp [c47]; omega), if_pos c47] at g5; exact g5) | (rw [if_neg (by simp [c47]), if_neg (by rw [c47]; decide), Int.sub_zero] at g5; exact g5)) rfl
                · skip
                  have hfin : (if can d v4 v7 && decide (w5 < tl m d (plus v4 v7)) then (v7, w5) else fdN m d v4 (m - (v7 + 1)).toNat (w5 - (if can d v4 v7 then tl m d (plus v4 v7) else 0)) (v7 + 1)) = (v7, w5) := by (rw [if_pos]; simp [c47]; omega)
                  refine x_iload (dtk dt_X6_tellRow 38 (71, .iload 4, 2) rfl) rfl ?_
                  refine x_iconst (v := 1) ⟨by decide, by decide⟩ (dtk dt_X6_tellRow 39 (73, .iconst 1, 1) rfl) ?_
                  refine x_iload (dtk dt_X6_tellRow 40 (74, .iload 7, 2) rfl) rfl ?_
                  refine x_ishl (dtk dt_X6_tellRow 41 (76, .ishl, 1) rfl) ?_
                  refine x_ior (dtk dt_X6_tellRow 42 (77, .ior, 1) rfl) ?_
                  change MW G _ _ _ _ _ _ ((0, plus v4 v7) :: _) _ _ _
                  refine x_istore (dtk dt_X6_tellRow 43 (78, .istore 4, 2) rfl) (by decide) ?_
                  refine x_aload_n (dtk dt_X6_tellRow 44 (80, .aload_n 3, 1) rfl) rfl ?_
                  refine x_iload (dtk dt_X6_tellRow 45 (81, .iload 7, 2) rfl) rfl ?_
                  refine kc_X6_71 rfl (dtk dt_X6_tellRow 46 (83, .invokevirtual 71, 3) rfl) (c_X3_add (G := G)  (ln_26 (hO.off_sx hs3).wf (by omega))) rfl rfl (wk_26 hO.wf) (fitR (by decide) (by decide)) (Nat.le_of_ble_eq_true rfl) (pqK ?_)
                  rw [add_26 (by omega)]
                  refine x_goto (tgt := 102) (dtk dt_X6_tellRow 47 (86, .goto 16, 3) rfl) (by decide) ?_
                  refine y_iinc (dtk dt_X6_tellRow 54 (102, .iinc 6 1, 3) rfl) rfl (by decide) ⟨by omega, by omega⟩ ?_
                  refine x_goto (tgt := 18) (dtk dt_X6_tellRow 55 (105, .goto (-87), 3) rfl) (by decide) ?_
                  refine MW.sub [3, 4, 5, 6, 1, 7, 0] rfl ?_
                  exact ih18 _ (by omega) _ _ _ _ (by omega) hpl (by rw [cnt_plus ⟨by omega, by omega⟩ (by omega) (may_nb c47), h3]) hwp (by omega) (by rw [fdS_s h1.1]; unfold fdO; rw [h5]; show (plus v4 (fd m d v4 v5).1, (fd m d v4 v5).2) = _; rw [← g5, fdN_s (by omega), hfin]) (sx.fd 26 1 rfl (sx.st 27 rfl hs3)) (kp.st 26 rfl (kp.st 27 rfl hkp)) (by rw [st2_self, h6]) (fun k k0 k1 => by rw [st2_ne _ (show (27 : Int) ≠ 26 by decide), st2_up]; show (if k = M3 26 1 then _ else _) = _; rw [h6]; by_cases hq : k = v6; (focus (rw [if_pos hq, hq]; unfold fdO; rw [h5]; show _ = (fd m d v4 v5).1; rw [← g5, fdN_s (by omega), hfin])); (rw [if_neg hq]; exact hO2 k k0 (by omega))) rfl
        refine MW.sub [1, 2, 3, 4, 5, 6, 7, 0] rfl ?_
        exact L30 _ _ _ (by omega) (by omega) (by rw [sumZ_0]; omega) (by rw [Int.sub_zero]; rfl) rfl
  refine MW.sub [3, 4, 5, 6, 2, 1, 0] rfl ?_
  exact L18 _ _ _ _ _ (by omega) (by omega) (by rfl) (by rw [wy_00 hsz]; decide) (by omega) rfl (sx.fd 26 1 rfl hs0) (kp.st 26 rfl kp.rf) (by rw [st2_self]) (fun k k0 k1 => by omega) rfl
set_option maxRecDepth 100000 in
set_option maxHeartbeats 4000000 in
theorem c_X6_firstLack {G : GG} {n : Nat} {K : KK} {M : MM} {p nm m : Int} {ci : Nat} {d : Int → Int} (hO : OB K M p ci nm m d) (hz4 : 0 ≤ M 4 1 ∧ M 4 1 ≤ m) (hx : ∀ k, 0 ≤ k → k < M 4 1 → 0 ≤ M 5 k ∧ M 5 k < m) (hd : ∀ j k, 0 ≤ j → j < k → k < M 4 1 → M 5 j ≠ M 5 k) : MC G mi_X6_firstLack 2 0 0 [(1, 9), (1, p), (1, 4)] n K M (PQ (some (0, lkR (M 4 1) d (M 5) 0 0)) n K (M)) := by
  refine MC.intro (lc := [(0, (1, 9)), (1, (1, p)), (2, (1, 4))]) (by decide) rfl (by simp [Nat.ble]) (Nat.le_of_ble_eq_true rfl) rfl (fun hMR => ?_)
  have hsz := hO.sz
  have hp := p2_b hsz
  refine x_iconst (v := 0) ⟨by decide, by decide⟩ (dtk dt_X6_firstLack 0 (0, .iconst 0, 1) rfl) ?_
  refine x_istore_n (dtk dt_X6_firstLack 1 (1, .istore_n 3, 1) rfl) (by decide) ?_
  refine x_iconst (v := 0) ⟨by decide, by decide⟩ (dtk dt_X6_firstLack 2 (2, .iconst 0, 1) rfl) ?_
  refine x_istore (dtk dt_X6_firstLack 3 (3, .istore 4, 2) rfl) (by decide) ?_
  have L5 : ∀ (fu : Nat) (v3 : Int) (v4 : Int), (0 ≤ v4 ∧ v4 ≤ M 4 1) → (v3 = hadS (M 5) v4) → (lkR (M 4 1) d (M 5) v4 v3 = lkR (M 4 1) d (M 5) 0 0) → (M 4 1 - v4).toNat = fu → MW G mi_X6_firstLack (rmd 2 0 0) (MZ G (PQ (some (0, lkR (M 4 1) d (M 5) 0 0)) n K (M)) 0 0) (0, 0) 5 [(0, (1, 9)), (1, (1, p)), (2, (1, 4)), (3, (0, v3)), (4, (0, v4))] [] n K (M) := by
    intro fu
    induction fu using Nat.strongRecOn with
    | ind fu ih5 =>
      intro v3 v4 h1 h2 h3 hk5
      have hhb := hadS_b (x := M 5) v4.toNat (fun i i0 i1 => by have := hx i i0 (by omega); omega)
      rw [show ((v4.toNat : Nat) : Int) = v4 by omega, ← h2] at hhb
      refine x_iload (dtk dt_X6_firstLack 4 (5, .iload 4, 2) rfl) rfl ?_
      refine x_aload_n (dtk dt_X6_firstLack 5 (7, .aload_n 2, 1) rfl) rfl ?_
      refine fg_X6_75 rfl (dtk dt_X6_firstLack 6 (8, .getfield 75, 3) rfl) (wk_4 hO.wf) (v := M 4 1) rfl ?_
      refine x_icmp_ge (tgt := 57) (dtk dt_X6_firstLack 7 (11, .if_icmp .ge 46, 3) rfl) (by decide) (fun c11 => ?_) (fun c11 => ?_)
      · skip
        refine x_iconst (v := -1) ⟨by decide, by decide⟩ (dtk dt_X6_firstLack 31 (57, .iconst (-1), 1) rfl) ?_
        exact r_i (dtk dt_X6_firstLack 32 (58, .ireturn, 1) rfl) rfl (by rw [lkR_e (by omega)] at h3; exact h3) rfl
      · skip
        have hx4 := hx v4 h1.1 (by omega)
        refine x_aload_n (dtk dt_X6_firstLack 8 (14, .aload_n 2, 1) rfl) rfl ?_
        refine x_iload (dtk dt_X6_firstLack 9 (15, .iload 4, 2) rfl) rfl ?_
        refine kc_X6_78 rfl (dtk dt_X6_firstLack 10 (17, .invokevirtual 78, 3) rfl) (c_X3_at (G := G)  (ln_4 hO.wf (by omega))) rfl rfl (wk_4 hO.wf) (fitR (by decide) (by decide)) (Nat.le_of_ble_eq_true rfl) (pqK ?_)
        change MW G _ _ _ _ _ _ ((0, if 0 ≤ v4 ∧ v4 < M 4 1 then M 5 v4 else -1) :: _) _ _ _
        rw [if_pos (by omega)]
        refine x_istore (dtk dt_X6_firstLack 11 (20, .istore 5, 2) rfl) (by decide) ?_
        refine x_aload_n (dtk dt_X6_firstLack 12 (22, .aload_n 1, 1) rfl) rfl ?_
        refine x_iload (dtk dt_X6_firstLack 13 (23, .iload 5, 2) rfl) rfl ?_
        refine kc_X6_82 rfl (dtk dt_X6_firstLack 14 (25, .invokevirtual 82, 3) rfl) (c_X4_hasThing (G := G)  hO) rfl rfl hO.k hO.c (fitR (by decide) (by decide)) (Nat.le_of_ble_eq_true rfl) (pqK ?_)
        refine x_if_eqB (tgt := 41) (dtk dt_X6_firstLack 15 (28, .ifCond .eq 13, 3) rfl) (by decide) (fun c28 => ?_) (fun c28 => ?_)
        · skip
          exact absurd c28 (by simp; omega)
        · skip
          refine x_aload_n (dtk dt_X6_firstLack 16 (31, .aload_n 1, 1) rfl) rfl ?_
          refine x_iload_n (dtk dt_X6_firstLack 17 (32, .iload_n 3, 1) rfl) rfl ?_
          refine x_iload (dtk dt_X6_firstLack 18 (33, .iload 5, 2) rfl) rfl ?_
          refine kc_X6_54 rfl (dtk dt_X6_firstLack 19 (35, .invokestatic 54, 3) rfl) (c_X6_canFollow (G := G)  hO hhb (by omega)) rfl rfl (fitR (by decide) (by decide)) (Nat.le_of_ble_eq_true rfl) (pqK ?_)
          refine x_if_neB (tgt := 44) (dtk dt_X6_firstLack 20 (38, .ifCond .ne 6, 3) rfl) (by decide) (fun c38 => ?_) (fun c38 => ?_)
          · skip
            refine x_iload_n (dtk dt_X6_firstLack 23 (44, .iload_n 3, 1) rfl) rfl ?_
            refine x_iconst (v := 1) ⟨by decide, by decide⟩ (dtk dt_X6_firstLack 24 (45, .iconst 1, 1) rfl) ?_
            refine x_iload (dtk dt_X6_firstLack 25 (46, .iload 5, 2) rfl) rfl ?_
            refine x_ishl (dtk dt_X6_firstLack 26 (48, .ishl, 1) rfl) ?_
            refine x_ior (dtk dt_X6_firstLack 27 (49, .ior, 1) rfl) ?_
            refine x_istore_n (dtk dt_X6_firstLack 28 (50, .istore_n 3, 1) rfl) (by decide) ?_
            refine y_iinc (dtk dt_X6_firstLack 29 (51, .iinc 4 1, 3) rfl) rfl (by decide) ⟨by omega, by omega⟩ ?_
            refine x_goto (tgt := 5) (dtk dt_X6_firstLack 30 (54, .goto (-49), 3) rfl) (by decide) ?_
            refine MW.sub [3, 4, 5, 1, 0] rfl ?_
            exact ih5 _ (by omega) _ _ (by omega) (by rw [hadS_s h1.1, ← h2]; rfl) (by rw [lkR_s (by omega), if_pos (can_iff.mp c38).2] at h3; exact h3) rfl
          · skip
            refine x_iload (dtk dt_X6_firstLack 21 (41, .iload 4, 2) rfl) rfl ?_
            exact r_i (dtk dt_X6_firstLack 22 (43, .ireturn, 1) rfl) rfl (by rw [lkR_s (by omega), if_neg (fun hq => by (have hb : bt v3 (M 5 v4) = false := (by cases hb : bt v3 (M 5 v4) with | false => rfl | true => (exfalso; rw [h2, show v4 = ((v4.toNat : Nat) : Int) by omega] at hb; obtain ⟨i, i0, i1, i2⟩ := (hadS_bt (x := M 5) v4.toNat (fun i i0 i1 => by have := hx i i0 (by omega); omega) _ (by rw [show ((v4.toNat : Nat) : Int) = v4 by omega]; omega)).mp hb; exact hd i v4 i0 (by omega) (by omega) (by rw [i2, show ((v4.toNat : Nat) : Int) = v4 by omega]))); rw [can_iff.mpr ⟨hb, hq⟩] at c38; cases c38))] at h3; exact h3) rfl
  refine MW.sub [2, 3, 4, 1, 0] rfl ?_
  exact L5 _ _ _ (by omega) rfl rfl rfl
set_option maxRecDepth 100000 in
set_option maxHeartbeats 4000000 in
theorem c_X6_isRowOut {G : GG} {n : Nat} {K : KK} {M : MM} {p nm m : Int} {ci : Nat} {d : Int → Int} (hO : OB K M p ci nm m d) (hz4 : 0 ≤ M 4 1 ∧ M 4 1 ≤ m) (hx : ∀ k, 0 ≤ k → k < M 4 1 → 0 ≤ M 5 k ∧ M 5 k < m) (hd : ∀ j k, 0 ≤ j → j < k → k < M 4 1 → M 5 j ≠ M 5 k) : MC G mi_X6_isRowOut 3 0 0 [(1, 9), (1, p), (1, 4)] n K M (PQ (some (0, B (decide (M 4 1 = m) && decide (lkR (M 4 1) d (M 5) 0 0 = -1)))) n K (M)) := by
  refine MC.intro (lc := [(0, (1, 9)), (1, (1, p)), (2, (1, 4))]) (by decide) rfl (by simp [Nat.ble]) (Nat.le_of_ble_eq_true rfl) rfl (fun hMR => ?_)
  refine x_aload_n (dtk dt_X6_isRowOut 0 (0, .aload_n 2, 1) rfl) rfl ?_
  refine fg_X6_75 rfl (dtk dt_X6_isRowOut 1 (1, .getfield 75, 3) rfl) (wk_4 hO.wf) (v := M 4 1) rfl ?_
  refine x_aload_n (dtk dt_X6_isRowOut 2 (4, .aload_n 1, 1) rfl) rfl ?_
  refine fg_X6_51 rfl (dtk dt_X6_isRowOut 3 (5, .getfield 51, 3) rfl) hO.k hO.c hO.n ?_
  refine x_icmp_ne (tgt := 25) (dtk dt_X6_isRowOut 4 (8, .if_icmp .ne 17, 3) rfl) (by decide) (fun c8 => ?_) (fun c8 => ?_)
  · skip
    refine x_iconst (v := 0) ⟨by decide, by decide⟩ (dtk dt_X6_isRowOut 13 (25, .iconst 0, 1) rfl) ?_
    exact r_b (b := false) (dtk dt_X6_isRowOut 14 (26, .ireturn, 1) rfl) rfl (by simp_all) rfl
  · skip
    refine x_aload_n (dtk dt_X6_isRowOut 5 (11, .aload_n 0, 1) rfl) rfl ?_
    refine x_aload_n (dtk dt_X6_isRowOut 6 (12, .aload_n 1, 1) rfl) rfl ?_
    refine x_aload_n (dtk dt_X6_isRowOut 7 (13, .aload_n 2, 1) rfl) rfl ?_
    refine kc_X6_86 rfl (dtk dt_X6_isRowOut 8 (14, .invokevirtual 86, 3) rfl) (c_X6_firstLack (G := G)  hO hz4 hx hd) rfl rfl (wk_9 hO.wf) (fitR (by decide) (by decide)) (Nat.le_of_ble_eq_true rfl) (pqK ?_)
    refine x_iconst (v := -1) ⟨by decide, by decide⟩ (dtk dt_X6_isRowOut 9 (17, .iconst (-1), 1) rfl) ?_
    refine x_icmp_ne (tgt := 25) (dtk dt_X6_isRowOut 10 (18, .if_icmp .ne 7, 3) rfl) (by decide) (fun c18 => ?_) (fun c18 => ?_)
    · skip
      refine x_iconst (v := 0) ⟨by decide, by decide⟩ (dtk dt_X6_isRowOut 13 (25, .iconst 0, 1) rfl) ?_
      exact r_b (b := false) (dtk dt_X6_isRowOut 14 (26, .ireturn, 1) rfl) rfl (by simp_all) rfl
    · skip
      refine x_iconst (v := 1) ⟨by decide, by decide⟩ (dtk dt_X6_isRowOut 11 (21, .iconst 1, 1) rfl) ?_
      refine x_goto (tgt := 26) (dtk dt_X6_isRowOut 12 (22, .goto 4, 3) rfl) (by decide) ?_
      exact r_b (b := true) (dtk dt_X6_isRowOut 14 (26, .ireturn, 1) rfl) rfl (by simp_all) rfl
set_option maxRecDepth 100000 in
set_option maxHeartbeats 4000000 in
theorem c_X6_jumpsOf {G : GG} {n : Nat} {K : KK} {M : MM} {p nm m : Int} {ci : Nat} {d : Int → Int} (hO : OB K M p ci nm m d) (hz4 : 0 ≤ M 4 1 ∧ M 4 1 ≤ m) (hx : ∀ k, 0 ≤ k → k < M 4 1 → 0 ≤ M 5 k ∧ M 5 k < m) : MC G mi_X6_jumpsOf 4 0 0 [(1, 9), (1, p), (1, 4)] n K M (PQ (some (0, jmp d (M 5) (M 4 1))) n K (M)) := by
  refine MC.intro (lc := [(0, (1, 9)), (1, (1, p)), (2, (1, 4))]) (by decide) rfl (by simp [Nat.ble]) (Nat.le_of_ble_eq_true rfl) rfl (fun hMR => ?_)
  have hsz := hO.sz
  refine x_iconst (v := 0) ⟨by decide, by decide⟩ (dtk dt_X6_jumpsOf 0 (0, .iconst 0, 1) rfl) ?_
  refine x_istore_n (dtk dt_X6_jumpsOf 1 (1, .istore_n 3, 1) rfl) (by decide) ?_
  refine x_iconst (v := 1) ⟨by decide, by decide⟩ (dtk dt_X6_jumpsOf 2 (2, .iconst 1, 1) rfl) ?_
  refine x_istore (dtk dt_X6_jumpsOf 3 (3, .istore 4, 2) rfl) (by decide) ?_
  have L5 : ∀ (fu : Nat) (v3 : Int) (v4 : Int), (1 ≤ v4 ∧ (v4 ≤ M 4 1 ∨ v4 = 1)) → (v3 = sumZ (v4 - 1) (fun k => B (!rel d (M 5 k) (M 5 (k + 1))))) → (M 4 1 - v4).toNat = fu → MW G mi_X6_jumpsOf (rmd 4 0 0) (MZ G (PQ (some (0, jmp d (M 5) (M 4 1))) n K (M)) 0 0) (0, 0) 5 [(0, (1, 9)), (1, (1, p)), (2, (1, 4)), (3, (0, v3)), (4, (0, v4))] [] n K (M) := by
    intro fu
    induction fu using Nat.strongRecOn with
    | ind fu ih5 =>
      intro v3 v4 h1 h2 hk5
      have hb := sumZ_b01 (n := v4 - 1) (by omega) (fun k => !rel d (M 5 k) (M 5 (k + 1)))
      rw [← h2] at hb
      refine x_iload (dtk dt_X6_jumpsOf 4 (5, .iload 4, 2) rfl) rfl ?_
      refine x_aload_n (dtk dt_X6_jumpsOf 5 (7, .aload_n 2, 1) rfl) rfl ?_
      refine fg_X6_75 rfl (dtk dt_X6_jumpsOf 6 (8, .getfield 75, 3) rfl) (wk_4 hO.wf) (v := M 4 1) rfl ?_
      refine x_icmp_ge (tgt := 44) (dtk dt_X6_jumpsOf 7 (11, .if_icmp .ge 33, 3) rfl) (by decide) (fun c11 => ?_) (fun c11 => ?_)
      · skip
        refine x_iload_n (dtk dt_X6_jumpsOf 22 (44, .iload_n 3, 1) rfl) rfl ?_
        exact r_i (dtk dt_X6_jumpsOf 23 (45, .ireturn, 1) rfl) rfl (by rw [h2]; unfold jmp; by_cases hq : v4 = M 4 1; rw [hq]; (rw [show v4 = 1 by omega, sumZ_0f (n := M 4 1 - 1) (fun i i0 i1 => by omega)]; rfl)) rfl
      · skip
        have k1 := hx (v4 - 1) (by omega) (by omega)
        have k2 := hx v4 (by omega) (by omega)
        refine x_aload_n (dtk dt_X6_jumpsOf 8 (14, .aload_n 1, 1) rfl) rfl ?_
        refine x_aload_n (dtk dt_X6_jumpsOf 9 (15, .aload_n 2, 1) rfl) rfl ?_
        refine x_iload (dtk dt_X6_jumpsOf 10 (16, .iload 4, 2) rfl) rfl ?_
        refine x_iconst (v := 1) ⟨by decide, by decide⟩ (dtk dt_X6_jumpsOf 11 (18, .iconst 1, 1) rfl) ?_
        refine y_isub (dtk dt_X6_jumpsOf 12 (19, .isub, 1) rfl) ⟨by omega, by omega⟩ ?_
        refine kc_X6_78 rfl (dtk dt_X6_jumpsOf 13 (20, .invokevirtual 78, 3) rfl) (c_X3_at (G := G)  (ln_4 hO.wf (by omega))) rfl rfl (wk_4 hO.wf) (fitR (by decide) (by decide)) (Nat.le_of_ble_eq_true rfl) (pqK ?_)
        change MW G _ _ _ _ _ _ ((0, if 0 ≤ (v4 - 1) ∧ (v4 - 1) < M 4 1 then M 5 (v4 - 1) else -1) :: _) _ _ _
        rw [if_pos (by omega)]
        refine x_aload_n (dtk dt_X6_jumpsOf 14 (23, .aload_n 2, 1) rfl) rfl ?_
        refine x_iload (dtk dt_X6_jumpsOf 15 (24, .iload 4, 2) rfl) rfl ?_
        refine kc_X6_78 rfl (dtk dt_X6_jumpsOf 16 (26, .invokevirtual 78, 3) rfl) (c_X3_at (G := G)  (ln_4 hO.wf (by omega))) rfl rfl (wk_4 hO.wf) (fitR (by decide) (by decide)) (Nat.le_of_ble_eq_true rfl) (pqK ?_)
        change MW G _ _ _ _ _ _ ((0, if 0 ≤ v4 ∧ v4 < M 4 1 then M 5 v4 else -1) :: _) _ _ _
        rw [if_pos (by omega)]
        refine kc_X6_90 rfl (dtk dt_X6_jumpsOf 17 (29, .invokevirtual 90, 3) rfl) (c_X4_isBelow (G := G)  hO (by omega) (by omega)) rfl rfl hO.k hO.c (fitR (by decide) (by decide)) (Nat.le_of_ble_eq_true rfl) (pqK ?_)
        refine x_if_neB (tgt := 38) (dtk dt_X6_jumpsOf 18 (32, .ifCond .ne 6, 3) rfl) (by decide) (fun c32 => ?_) (fun c32 => ?_)
        · skip
          refine y_iinc (dtk dt_X6_jumpsOf 20 (38, .iinc 4 1, 3) rfl) rfl (by decide) ⟨by omega, by omega⟩ ?_
          refine x_goto (tgt := 5) (dtk dt_X6_jumpsOf 21 (41, .goto (-36), 3) rfl) (by decide) ?_
          refine MW.sub [1, 2, 3, 4, 0] rfl ?_
          exact ih5 _ (by omega) _ _ (by omega) (by rw [show v4 + 1 - 1 = (v4 - 1) + 1 by omega, sumZ_s (by omega), ← h2, show v4 - 1 + 1 = v4 by omega]; clear ih5; simp_all [B]) rfl
        · skip
          refine y_iinc (dtk dt_X6_jumpsOf 19 (35, .iinc 3 1, 3) rfl) rfl (by decide) ⟨by omega, by omega⟩ ?_
          refine y_iinc (dtk dt_X6_jumpsOf 20 (38, .iinc 4 1, 3) rfl) rfl (by decide) ⟨by omega, by omega⟩ ?_
          refine x_goto (tgt := 5) (dtk dt_X6_jumpsOf 21 (41, .goto (-36), 3) rfl) (by decide) ?_
          refine MW.sub [2, 3, 4, 1, 0] rfl ?_
          exact ih5 _ (by omega) _ _ (by omega) (by rw [show v4 + 1 - 1 = (v4 - 1) + 1 by omega, sumZ_s (by omega), ← h2, show v4 - 1 + 1 = v4 by omega]; clear ih5; simp_all [B]) rfl
  refine MW.sub [2, 3, 4, 1, 0] rfl ?_
  exact L5 _ _ _ (by omega) rfl rfl
set_option maxRecDepth 100000 in
set_option maxHeartbeats 4000000 in
theorem c_X6_rankOf {G : GG} {n : Nat} {K : KK} {M : MM} {p nm m : Int} {ci : Nat} {d : Int → Int} (hO : OB K M p ci nm m d) (hR : RC K M) (hz4 : M 4 1 = m) (hro : RO m d (M 5)) : MC G mi_X6_rankOf 4 0 0 [(1, 9), (1, p), (1, 4)] n K M (UQ sx (some (0, (rkS m d (M 5) m).1)) n K M (fun M' => RC K M')) := by
  refine MC.intro (lc := [(0, (1, 9)), (1, (1, p)), (2, (1, 4))]) (by decide) rfl (by simp [Nat.ble]) (Nat.le_of_ble_eq_true rfl) rfl (fun hMR => ?_)
  have hsz := hO.sz
  have hp := p2_b hsz
  refine x_aload_n (dtk dt_X6_rankOf 0 (0, .aload_n 0, 1) rfl) rfl ?_
  refine x_aload_n (dtk dt_X6_rankOf 1 (1, .aload_n 1, 1) rfl) rfl ?_
  refine kc_X6_58 rfl (dtk dt_X6_rankOf 2 (2, .invokevirtual 58, 3) rfl) (c_X6_countWays (G := G)  hO hR) rfl rfl (wk_9 hO.wf) (fitR (by decide) (by decide)) (Nat.le_of_ble_eq_true rfl) (uqK (fun M2_1 hs2_1 hE2_1 => ?_))
  have hE := hE2_1
  have hs0 := hs2_1
  have e4 : M2_1 4 = M 4 := hs0.1 4 (by omega)
  have e5 : M2_1 5 = M 5 := hs0.1 5 (by omega)
  refine x_iconst (v := 0) ⟨by decide, by decide⟩ (dtk dt_X6_rankOf 3 (5, .iconst 0, 1) rfl) ?_
  refine x_istore_n (dtk dt_X6_rankOf 4 (6, .istore_n 3, 1) rfl) (by decide) ?_
  refine x_iconst (v := 0) ⟨by decide, by decide⟩ (dtk dt_X6_rankOf 5 (7, .iconst 0, 1) rfl) ?_
  refine x_istore (dtk dt_X6_rankOf 6 (8, .istore 4, 2) rfl) (by decide) ?_
  refine x_iconst (v := 0) ⟨by decide, by decide⟩ (dtk dt_X6_rankOf 7 (10, .iconst 0, 1) rfl) ?_
  refine x_istore (dtk dt_X6_rankOf 8 (11, .istore 5, 2) rfl) (by decide) ?_
  have L13 : ∀ (fu : Nat) (v3 : Int) (v4 : Int) (v5 : Int), (0 ≤ v5 ∧ v5 ≤ m) → (0 ≤ v3 ∧ v3 < p2 m) → (v3 = hadS (M 5) v5) → (wy m d v3 ≠ 0) → (rkS m d (M 5) v5 = (v4, v3)) → (inR v4) → (m - v5).toNat = fu → MW G mi_X6_rankOf (rmd 4 0 0) (MZ G (UQ sx (some (0, (rkS m d (M 5) m).1)) n K M (fun M' => RC K M')) 0 0) (0, 0) 13 [(0, (1, 9)), (1, (1, p)), (2, (1, 4)), (3, (0, v3)), (4, (0, v4)), (5, (0, v5))] [] n K (M2_1) := by
    intro fu
    induction fu using Nat.strongRecOn with
    | ind fu ih13 =>
      intro v3 v4 v5 h1 h2 h3 hwn h4 h5 hk13
      refine x_iload (dtk dt_X6_rankOf 9 (13, .iload 5, 2) rfl) rfl ?_
      refine x_aload_n (dtk dt_X6_rankOf 10 (15, .aload_n 2, 1) rfl) rfl ?_
      refine fg_X6_75 rfl (dtk dt_X6_rankOf 11 (16, .getfield 75, 3) rfl) (wk_4 hO.wf) (v := m) (by rw [e4]; exact hz4) ?_
      refine x_icmp_ge (tgt := 85) (dtk dt_X6_rankOf 12 (19, .if_icmp .ge 66, 3) rfl) (by decide) (fun c19 => ?_) (fun c19 => ?_)
      · skip
        refine x_iload (dtk dt_X6_rankOf 48 (85, .iload 4, 2) rfl) rfl ?_
        exact ru_i (dtk dt_X6_rankOf 49 (87, .ireturn, 1) rfl) rfl (by rw [show v5 = m by omega] at h4; rw [h4]) hs2_1 hE.1
      · skip
        have hx5 := hro.1 v5 h1.1 (by omega)
        refine x_aload_n (dtk dt_X6_rankOf 13 (22, .aload_n 2, 1) rfl) rfl ?_
        refine x_iload (dtk dt_X6_rankOf 14 (23, .iload 5, 2) rfl) rfl ?_
        refine kc_X6_78 rfl (dtk dt_X6_rankOf 15 (25, .invokevirtual 78, 3) rfl) (c_X3_at (G := G)  (ln_4 (hO.off_sx hs0).wf (by rw [e4]; omega))) rfl rfl (wk_4 hO.wf) (fitR (by decide) (by decide)) (Nat.le_of_ble_eq_true rfl) (pqK ?_)
        change MW G _ _ _ _ _ _ ((0, if 0 ≤ v5 ∧ v5 < M2_1 4 1 then M2_1 5 v5 else -1) :: _) _ _ _
        rw [e4, e5, if_pos (by omega)]
        refine x_istore (dtk dt_X6_rankOf 16 (28, .istore 6, 2) rfl) (by decide) ?_
        refine x_iconst (v := 0) ⟨by decide, by decide⟩ (dtk dt_X6_rankOf 17 (30, .iconst 0, 1) rfl) ?_
        refine x_istore (dtk dt_X6_rankOf 18 (31, .istore 7, 2) rfl) (by decide) ?_
        have L33 : ∀ (fu : Nat) (w4 : Int) (v7 : Int), (0 ≤ v7 ∧ v7 ≤ M 5 v5) → (w4 = rkI m d v3 v4 v7) → (M 5 v5 - v7).toNat = fu → MW G mi_X6_rankOf (rmd 4 0 0) (MZ G (UQ sx (some (0, (rkS m d (M 5) m).1)) n K M (fun M' => RC K M')) 0 0) (0, 0) 33 [(0, (1, 9)), (1, (1, p)), (2, (1, 4)), (3, (0, v3)), (4, (0, w4)), (5, (0, v5)), (6, (0, M 5 v5)), (7, (0, v7))] [] n K (M2_1) := by
          intro fu
          induction fu using Nat.strongRecOn with
          | ind fu ih33 =>
            intro w4 v7 g1 g2 hk33
            refine x_iload (dtk dt_X6_rankOf 19 (33, .iload 7, 2) rfl) rfl ?_
            refine x_iload (dtk dt_X6_rankOf 20 (35, .iload 6, 2) rfl) rfl ?_
            refine x_icmp_ge (tgt := 72) (dtk dt_X6_rankOf 21 (37, .if_icmp .ge 35, 3) rfl) (by decide) (fun c37 => ?_) (fun c37 => ?_)
            · skip
              refine x_iload_n (dtk dt_X6_rankOf 40 (72, .iload_n 3, 1) rfl) rfl ?_
              refine x_iconst (v := 1) ⟨by decide, by decide⟩ (dtk dt_X6_rankOf 41 (73, .iconst 1, 1) rfl) ?_
              refine x_iload (dtk dt_X6_rankOf 42 (74, .iload 6, 2) rfl) rfl ?_
              refine x_ishl (dtk dt_X6_rankOf 43 (76, .ishl, 1) rfl) ?_
              refine x_ior (dtk dt_X6_rankOf 44 (77, .ior, 1) rfl) ?_
              refine x_istore_n (dtk dt_X6_rankOf 45 (78, .istore_n 3, 1) rfl) (by decide) ?_
              refine y_iinc (dtk dt_X6_rankOf 46 (79, .iinc 5 1, 3) rfl) rfl (by decide) ⟨by omega, by omega⟩ ?_
              refine x_goto (tgt := 13) (dtk dt_X6_rankOf 47 (82, .goto (-69), 3) rfl) (by decide) ?_
              refine MW.sub [2, 3, 4, 1, 5, 0] rfl ?_
              exact ih13 _ (by omega) _ _ _ (by omega) (plus_in hsz h2 hx5) (by rw [hadS_s h1.1, ← h3]; rfl) (wy_up hsz h2 hx5 hwn (by rw [h3]; exact hro.2 v5 h1.1 (by omega))) (by rw [rkS_s h1.1, h4]; show (rkI m d v3 v4 (M 5 v5), plus v3 (M 5 v5)) = _; rw [g2, show v7 = M 5 v5 by omega]; rfl) (by rw [g2]; have := rkI_R (m := m) (d := d) (s := v3) h5 v7.toNat; rw [show ((v7.toNat : Nat) : Int) = v7 by omega] at this; exact this) rfl
            · skip
              have hpl := plus_in (c := v7) hsz h2 ⟨g1.1, by omega⟩
              refine x_aload_n (dtk dt_X6_rankOf 22 (40, .aload_n 1, 1) rfl) rfl ?_
              refine x_iload_n (dtk dt_X6_rankOf 23 (41, .iload_n 3, 1) rfl) rfl ?_
              refine x_iload (dtk dt_X6_rankOf 24 (42, .iload 7, 2) rfl) rfl ?_
              refine kc_X6_54 rfl (dtk dt_X6_rankOf 25 (44, .invokestatic 54, 3) rfl) (c_X6_canFollow (G := G)  (hO.off_sx hs2_1) ⟨by omega, by omega⟩ (by omega)) rfl rfl (fitR (by decide) (by decide)) (Nat.le_of_ble_eq_true rfl) (pqK ?_)
              refine x_if_eqB (tgt := 66) (dtk dt_X6_rankOf 26 (47, .ifCond .eq 19, 3) rfl) (by decide) (fun c47 => ?_) (fun c47 => ?_)
              · skip
                refine y_iinc (dtk dt_X6_rankOf 38 (66, .iinc 7 1, 3) rfl) rfl (by decide) ⟨by omega, by omega⟩ ?_
                refine x_goto (tgt := 33) (dtk dt_X6_rankOf 39 (69, .goto (-36), 3) rfl) (by decide) ?_
                refine MW.sub [1, 2, 3, 4, 5, 6, 7, 0] rfl ?_
                exact ih33 _ (by omega) _ _ (by omega) (by rw [rkI_s g1.1, ← g2]; first | (rw [if_pos c47]; done) | (rw [if_neg (by rw [c47]; decide), Int.add_zero, wr_in (by rw [g2]; have := rkI_R (m := m) (d := d) (s := v3) h5 v7.toNat; rw [show ((v7.toNat : Nat) : Int) = v7 by omega] at this; exact this)])) rfl
              · skip
                have hwp := wy_up hsz h2 ⟨g1.1, by omega⟩ hwn c47
                refine x_iload (dtk dt_X6_rankOf 27 (50, .iload 4, 2) rfl) rfl ?_
                refine x_aload_n (dtk dt_X6_rankOf 28 (52, .aload_n 0, 1) rfl) rfl ?_
                refine fg_X6_15 rfl (dtk dt_X6_rankOf 29 (53, .getfield 15, 3) rfl) (wk_9 hO.wf) (wm_9_1 (hO.off_sx hs2_1).wf) ?_
                refine x_iload_n (dtk dt_X6_rankOf 30 (56, .iload_n 3, 1) rfl) rfl ?_
                refine x_iconst (v := 1) ⟨by decide, by decide⟩ (dtk dt_X6_rankOf 31 (57, .iconst 1, 1) rfl) ?_
                refine x_iload (dtk dt_X6_rankOf 32 (58, .iload 7, 2) rfl) rfl ?_
                refine x_ishl (dtk dt_X6_rankOf 33 (60, .ishl, 1) rfl) ?_
                refine x_ior (dtk dt_X6_rankOf 34 (61, .ior, 1) rfl) ?_
                change MW G _ _ _ _ _ _ ((0, plus v3 v7) :: _) _ _ _
                refine x_iald (dtk dt_X6_rankOf 35 (62, .iaload, 1) rfl) (wk_11 hO.wf) ⟨by omega, by omega⟩ ?_
                rw [(hE.2 _ hpl.1 hpl.2).2, fw_tl hwp]
                refine w_iadd (dtk dt_X6_rankOf 36 (63, .iadd, 1) rfl) ?_
                refine x_istore (dtk dt_X6_rankOf 37 (64, .istore 4, 2) rfl) (by decide) ?_
                refine y_iinc (dtk dt_X6_rankOf 38 (66, .iinc 7 1, 3) rfl) rfl (by decide) ⟨by omega, by omega⟩ ?_
                refine x_goto (tgt := 33) (dtk dt_X6_rankOf 39 (69, .goto (-36), 3) rfl) (by decide) ?_
                refine MW.sub [2, 3, 4, 5, 1, 6, 7, 0] rfl ?_
                exact ih33 _ (by omega) _ _ (by omega) (by rw [rkI_s g1.1, ← g2]; first | (rw [if_pos c47]; done) | (rw [if_neg (by rw [c47]; decide), Int.add_zero, wr_in (by rw [g2]; have := rkI_R (m := m) (d := d) (s := v3) h5 v7.toNat; rw [show ((v7.toNat : Nat) : Int) = v7 by omega] at this; exact this)])) rfl
        refine MW.sub [2, 3, 4, 5, 6, 7, 1, 0] rfl ?_
        exact L33 _ _ _ (by omega) rfl rfl
  refine MW.sub [3, 4, 5, 2, 1, 0] rfl ?_
  exact L13 _ _ _ _ (by omega) (by omega) rfl (by rw [wy_00 hsz]; decide) rfl ⟨by omega, by omega⟩ rfl
set_option maxRecDepth 100000 in
set_option maxHeartbeats 4000000 in
theorem c_X6_waysThrough {G : GG} {n : Nat} {K : KK} {M : MM} {s t : Int} {p nm m : Int} {ci : Nat} {d : Int → Int} (hO : OB K M p ci nm m d) (hw : CW M m d) (hs : 0 ≤ s ∧ s < p2 m) (ht : 0 ≤ t ∧ t < m) : MC G mi_X6_waysThrough 2 0 0 [(1, 9), (1, p), (0, s), (0, t)] n K M (PQ (some (0, wtC m d s t)) n K (M)) := by
  refine MC.intro (lc := [(0, (1, 9)), (1, (1, p)), (2, (0, s)), (3, (0, t))]) (by decide) rfl (by simp [Nat.ble]) (Nat.le_of_ble_eq_true rfl) rfl (fun hMR => ?_)
  have hsz := hO.sz
  have hp := p2_b hsz
  have hpl := plus_in hsz hs ht
  refine x_aload_n (dtk dt_X6_waysThrough 0 (0, .aload_n 0, 1) rfl) rfl ?_
  refine fg_X6_9 rfl (dtk dt_X6_waysThrough 1 (1, .getfield 9, 3) rfl) (wk_9 hO.wf) (wm_9_0 hO.wf) ?_
  refine x_iload_n (dtk dt_X6_waysThrough 2 (4, .iload_n 2, 1) rfl) rfl ?_
  refine x_iald (dtk dt_X6_waysThrough 3 (5, .iaload, 1) rfl) (wk_10 hO.wf) ⟨by omega, by omega⟩ ?_
  rw [(hw s hs.1 hs.2).1]
  refine x_if_eq (tgt := 18) (dtk dt_X6_waysThrough 4 (6, .ifCond .eq 12, 3) rfl) (by decide) (fun c6 => ?_) (fun c6 => ?_)
  · skip
    refine x_iconst (v := 0) ⟨by decide, by decide⟩ (dtk dt_X6_waysThrough 10 (18, .iconst 0, 1) rfl) ?_
    exact r_i (dtk dt_X6_waysThrough 11 (19, .ireturn, 1) rfl) rfl (by unfold wtC; first | (rw [if_pos c6]; done) | (rw [if_neg c6, if_neg (by rw [c15]; decide)])) rfl
  · skip
    refine x_aload_n (dtk dt_X6_waysThrough 5 (9, .aload_n 1, 1) rfl) rfl ?_
    refine x_iload_n (dtk dt_X6_waysThrough 6 (10, .iload_n 2, 1) rfl) rfl ?_
    refine x_iload_n (dtk dt_X6_waysThrough 7 (11, .iload_n 3, 1) rfl) rfl ?_
    refine kc_X6_54 rfl (dtk dt_X6_waysThrough 8 (12, .invokestatic 54, 3) rfl) (c_X6_canFollow (G := G)  hO ⟨by omega, by omega⟩ (by omega)) rfl rfl (fitR (by decide) (by decide)) (Nat.le_of_ble_eq_true rfl) (pqK ?_)
    refine x_if_neB (tgt := 20) (dtk dt_X6_waysThrough 9 (15, .ifCond .ne 5, 3) rfl) (by decide) (fun c15 => ?_) (fun c15 => ?_)
    · skip
      refine x_aload_n (dtk dt_X6_waysThrough 12 (20, .aload_n 0, 1) rfl) rfl ?_
      refine fg_X6_9 rfl (dtk dt_X6_waysThrough 13 (21, .getfield 9, 3) rfl) (wk_9 hO.wf) (wm_9_0 hO.wf) ?_
      refine x_iload_n (dtk dt_X6_waysThrough 14 (24, .iload_n 2, 1) rfl) rfl ?_
      refine x_iald (dtk dt_X6_waysThrough 15 (25, .iaload, 1) rfl) (wk_10 hO.wf) ⟨by omega, by omega⟩ ?_
      rw [(hw s hs.1 hs.2).1]
      refine x_aload_n (dtk dt_X6_waysThrough 16 (26, .aload_n 0, 1) rfl) rfl ?_
      refine fg_X6_15 rfl (dtk dt_X6_waysThrough 17 (27, .getfield 15, 3) rfl) (wk_9 hO.wf) (wm_9_1 hO.wf) ?_
      refine x_iload_n (dtk dt_X6_waysThrough 18 (30, .iload_n 2, 1) rfl) rfl ?_
      refine x_iconst (v := 1) ⟨by decide, by decide⟩ (dtk dt_X6_waysThrough 19 (31, .iconst 1, 1) rfl) ?_
      refine x_iload_n (dtk dt_X6_waysThrough 20 (32, .iload_n 3, 1) rfl) rfl ?_
      refine x_ishl (dtk dt_X6_waysThrough 21 (33, .ishl, 1) rfl) ?_
      refine x_ior (dtk dt_X6_waysThrough 22 (34, .ior, 1) rfl) ?_
      change MW G _ _ _ _ _ _ ((0, plus s t) :: _) _ _ _
      refine x_iald (dtk dt_X6_waysThrough 23 (35, .iaload, 1) rfl) (wk_11 hO.wf) ⟨by omega, by omega⟩ ?_
      rw [(hw _ hpl.1 hpl.2).2]
      refine w_imul (dtk dt_X6_waysThrough 24 (36, .imul, 1) rfl) ?_
      exact r_i (dtk dt_X6_waysThrough 25 (37, .ireturn, 1) rfl) rfl (by unfold wtC; rw [if_neg c6, if_pos c15]) rfl
    · skip
      refine x_iconst (v := 0) ⟨by decide, by decide⟩ (dtk dt_X6_waysThrough 10 (18, .iconst 0, 1) rfl) ?_
      exact r_i (dtk dt_X6_waysThrough 11 (19, .ireturn, 1) rfl) rfl (by unfold wtC; first | (rw [if_pos c6]; done) | (rw [if_neg c6, if_neg (by rw [c15]; decide)])) rfl
set_option maxRecDepth 100000 in
set_option maxHeartbeats 4000000 in
theorem c_X6_aheadCount {G : GG} {n : Nat} {K : KK} {M : MM} {a b : Int} {p nm m : Int} {ci : Nat} {d : Int → Int} (hO : OB K M p ci nm m d) (hR : RC K M) (ha : 0 ≤ a ∧ a < m) (hb : 0 ≤ b ∧ b < m) : MC G mi_X6_aheadCount 4 0 0 [(1, 9), (1, p), (0, a), (0, b)] n K M (UQ sx (some (0, ahC m d a b)) n K M (fun M' => RC K M')) := by
  refine MC.intro (lc := [(0, (1, 9)), (1, (1, p)), (2, (0, a)), (3, (0, b))]) (by decide) rfl (by simp [Nat.ble]) (Nat.le_of_ble_eq_true rfl) rfl (fun hMR => ?_)
  have hsz := hO.sz
  have hp := p2_b hsz
  refine x_aload_n (dtk dt_X6_aheadCount 0 (0, .aload_n 0, 1) rfl) rfl ?_
  refine x_aload_n (dtk dt_X6_aheadCount 1 (1, .aload_n 1, 1) rfl) rfl ?_
  refine kc_X6_58 rfl (dtk dt_X6_aheadCount 2 (2, .invokevirtual 58, 3) rfl) (c_X6_countWays (G := G)  hO hR) rfl rfl (wk_9 hO.wf) (fitR (by decide) (by decide)) (Nat.le_of_ble_eq_true rfl) (uqK (fun M2_1 hs2_1 hE2_1 => ?_))
  have hE := hE2_1
  have hs0 := hs2_1
  refine x_aload_n (dtk dt_X6_aheadCount 3 (5, .aload_n 1, 1) rfl) rfl ?_
  refine kc_X6_40 rfl (dtk dt_X6_aheadCount 4 (6, .invokevirtual 40, 3) rfl) (c_X4_all (G := G)  (hO.off_sx hs2_1)) rfl rfl hO.k hO.c (fitR (by decide) (by decide)) (Nat.le_of_ble_eq_true rfl) (pqK ?_)
  refine x_istore (dtk dt_X6_aheadCount 5 (9, .istore 4, 2) rfl) (by decide) ?_
  refine x_iconst (v := 0) ⟨by decide, by decide⟩ (dtk dt_X6_aheadCount 6 (11, .iconst 0, 1) rfl) ?_
  refine x_istore (dtk dt_X6_aheadCount 7 (12, .istore 5, 2) rfl) (by decide) ?_
  refine x_iconst (v := 0) ⟨by decide, by decide⟩ (dtk dt_X6_aheadCount 8 (14, .iconst 0, 1) rfl) ?_
  refine x_istore (dtk dt_X6_aheadCount 9 (15, .istore 6, 2) rfl) (by decide) ?_
  have L17 : ∀ (fu : Nat) (v5 : Int) (v6 : Int), (0 ≤ v6 ∧ v6 ≤ p2 m - 1) → (v5 = foldZ v6 (fun acc s => if bt s a then wr (acc + wtC m d s b) else acc) 0) → (p2 m - 1 - v6).toNat = fu → MW G mi_X6_aheadCount (rmd 4 0 0) (MZ G (UQ sx (some (0, ahC m d a b)) n K M (fun M' => RC K M')) 0 0) (0, 0) 17 [(0, (1, 9)), (1, (1, p)), (2, (0, a)), (3, (0, b)), (4, (0, p2 m - 1)), (5, (0, v5)), (6, (0, v6))] [] n K (M2_1) := by
    intro fu
    induction fu using Nat.strongRecOn with
    | ind fu ih17 =>
      intro v5 v6 h1 h2 hk17
      refine x_iload (dtk dt_X6_aheadCount 10 (17, .iload 6, 2) rfl) rfl ?_
      refine x_iload (dtk dt_X6_aheadCount 11 (19, .iload 4, 2) rfl) rfl ?_
      refine x_icmp_ge (tgt := 52) (dtk dt_X6_aheadCount 12 (21, .if_icmp .ge 31, 3) rfl) (by decide) (fun c21 => ?_) (fun c21 => ?_)
      · skip
        refine x_iload (dtk dt_X6_aheadCount 29 (52, .iload 5, 2) rfl) rfl ?_
        exact ru_i (dtk dt_X6_aheadCount 30 (54, .ireturn, 1) rfl) rfl (by rw [h2, show v6 = p2 m - 1 by omega]; rfl) hs2_1 hE.1
      · skip
        refine x_iload (dtk dt_X6_aheadCount 13 (24, .iload 6, 2) rfl) rfl ?_
        refine x_iload_n (dtk dt_X6_aheadCount 14 (26, .iload_n 2, 1) rfl) rfl ?_
        refine x_ishr (dtk dt_X6_aheadCount 15 (27, .ishr, 1) rfl) ?_
        refine x_iconst (v := 1) ⟨by decide, by decide⟩ (dtk dt_X6_aheadCount 16 (28, .iconst 1, 1) rfl) ?_
        refine x_iand (dtk dt_X6_aheadCount 17 (29, .iand, 1) rfl) ?_
        rw [zbit ⟨by omega, by omega⟩ ⟨by omega, by omega⟩]
        change MW G _ _ _ _ _ _ ((0, B (bt (v6) (a))) :: _) _ _ _
        refine x_if_eqB (tgt := 46) (dtk dt_X6_aheadCount 18 (30, .ifCond .eq 16, 3) rfl) (by decide) (fun c30 => ?_) (fun c30 => ?_)
        · skip
          refine y_iinc (dtk dt_X6_aheadCount 27 (46, .iinc 6 1, 3) rfl) rfl (by decide) ⟨by omega, by omega⟩ ?_
          refine x_goto (tgt := 17) (dtk dt_X6_aheadCount 28 (49, .goto (-32), 3) rfl) (by decide) ?_
          refine MW.sub [1, 2, 3, 4, 5, 6, 0] rfl ?_
          exact ih17 _ (by omega) _ _ (by omega) (by rw [foldZ_s h1.1, ← h2]; first | (rw [if_pos c30]; done) | (rw [if_neg (by rw [c30]; decide)])) rfl
        · skip
          refine x_iload (dtk dt_X6_aheadCount 19 (33, .iload 5, 2) rfl) rfl ?_
          refine x_aload_n (dtk dt_X6_aheadCount 20 (35, .aload_n 0, 1) rfl) rfl ?_
          refine x_aload_n (dtk dt_X6_aheadCount 21 (36, .aload_n 1, 1) rfl) rfl ?_
          refine x_iload (dtk dt_X6_aheadCount 22 (37, .iload 6, 2) rfl) rfl ?_
          refine x_iload_n (dtk dt_X6_aheadCount 23 (39, .iload_n 3, 1) rfl) rfl ?_
          refine kc_X6_94 rfl (dtk dt_X6_aheadCount 24 (40, .invokevirtual 94, 3) rfl) (c_X6_waysThrough (G := G)  (hO.off_sx hs2_1) hE.2 ⟨by omega, by omega⟩ (by omega)) rfl rfl (wk_9 hO.wf) (fitR (by decide) (by decide)) (Nat.le_of_ble_eq_true rfl) (pqK ?_)
          refine w_iadd (dtk dt_X6_aheadCount 25 (43, .iadd, 1) rfl) ?_
          refine x_istore (dtk dt_X6_aheadCount 26 (44, .istore 5, 2) rfl) (by decide) ?_
          refine y_iinc (dtk dt_X6_aheadCount 27 (46, .iinc 6 1, 3) rfl) rfl (by decide) ⟨by omega, by omega⟩ ?_
          refine x_goto (tgt := 17) (dtk dt_X6_aheadCount 28 (49, .goto (-32), 3) rfl) (by decide) ?_
          refine MW.sub [2, 3, 4, 5, 6, 1, 0] rfl ?_
          exact ih17 _ (by omega) _ _ (by omega) (by rw [foldZ_s h1.1, ← h2]; first | (rw [if_pos c30]; done) | (rw [if_neg (by rw [c30]; decide)])) rfl
  refine MW.sub [3, 4, 5, 6, 2, 1, 0] rfl ?_
  exact L17 _ _ _ (by omega) rfl rfl
set_option maxRecDepth 100000 in
set_option maxHeartbeats 4000000 in
theorem c_X6_placeSum {G : GG} {n : Nat} {K : KK} {M : MM} {t : Int} {p nm m : Int} {ci : Nat} {d : Int → Int} (hO : OB K M p ci nm m d) (hR : RC K M) (ht : 0 ≤ t ∧ t < m) : MC G mi_X6_placeSum 4 0 0 [(1, 9), (1, p), (0, t)] n K M (UQ sx (some (2, plC m d t)) n K M (fun M' => RC K M')) := by
  refine MC.intro (lc := [(0, (1, 9)), (1, (1, p)), (2, (0, t))]) (by decide) rfl (by simp [Nat.ble]) (Nat.le_of_ble_eq_true rfl) rfl (fun hMR => ?_)
  have hsz := hO.sz
  have hp := p2_b hsz
  refine x_aload_n (dtk dt_X6_placeSum 0 (0, .aload_n 0, 1) rfl) rfl ?_
  refine x_aload_n (dtk dt_X6_placeSum 1 (1, .aload_n 1, 1) rfl) rfl ?_
  refine kc_X6_58 rfl (dtk dt_X6_placeSum 2 (2, .invokevirtual 58, 3) rfl) (c_X6_countWays (G := G)  hO hR) rfl rfl (wk_9 hO.wf) (fitR (by decide) (by decide)) (Nat.le_of_ble_eq_true rfl) (uqK (fun M2_1 hs2_1 hE2_1 => ?_))
  have hE := hE2_1
  have hs0 := hs2_1
  refine x_aload_n (dtk dt_X6_placeSum 3 (5, .aload_n 1, 1) rfl) rfl ?_
  refine kc_X6_40 rfl (dtk dt_X6_placeSum 4 (6, .invokevirtual 40, 3) rfl) (c_X4_all (G := G)  (hO.off_sx hs2_1)) rfl rfl hO.k hO.c (fitR (by decide) (by decide)) (Nat.le_of_ble_eq_true rfl) (pqK ?_)
  refine x_istore_n (dtk dt_X6_placeSum 5 (9, .istore_n 3, 1) rfl) (by decide) ?_
  refine x_lconst (dtk dt_X6_placeSum 6 (10, .lconst 0, 1) rfl) ?_
  refine x_lstore (dtk dt_X6_placeSum 7 (11, .lstore 4, 2) rfl) (by decide) ?_
  refine x_iconst (v := 0) ⟨by decide, by decide⟩ (dtk dt_X6_placeSum 8 (13, .iconst 0, 1) rfl) ?_
  refine x_istore (dtk dt_X6_placeSum 9 (14, .istore 6, 2) rfl) (by decide) ?_
  have L16 : ∀ (fu : Nat) (v4 : Int) (v6 : Int), (0 ≤ v6 ∧ v6 ≤ p2 m - 1) → (v4 = sumZ v6 (fun s => cnt s * wtC m d s t)) → (p2 m - 1 - v6).toNat = fu → MW G mi_X6_placeSum (rmd 4 0 0) (MZ G (UQ sx (some (2, plC m d t)) n K M (fun M' => RC K M')) 0 0) (0, 0) 16 [(0, (1, 9)), (1, (1, p)), (2, (0, t)), (3, (0, p2 m - 1)), (4, (2, v4)), (6, (0, v6))] [] n K (M2_1) := by
    intro fu
    induction fu using Nat.strongRecOn with
    | ind fu ih16 =>
      intro v4 v6 h1 h2 hk16
      have hb := plC_b (m := m) (d := d) (t := t) (k := v6) ⟨by omega, by omega⟩
      rw [← h2] at hb
      refine x_iload (dtk dt_X6_placeSum 10 (16, .iload 6, 2) rfl) rfl ?_
      refine x_iload_n (dtk dt_X6_placeSum 11 (18, .iload_n 3, 1) rfl) rfl ?_
      refine x_icmp_ge (tgt := 49) (dtk dt_X6_placeSum 12 (19, .if_icmp .ge 30, 3) rfl) (by decide) (fun c19 => ?_) (fun c19 => ?_)
      · skip
        refine x_lload (dtk dt_X6_placeSum 28 (49, .lload 4, 2) rfl) rfl ?_
        exact ru_l (dtk dt_X6_placeSum 29 (51, .lreturn, 1) rfl) rfl (by rw [h2, show v6 = p2 m - 1 by omega]; rfl) hs2_1 hE.1
      · skip
        have hcb := cnt_b v6
        have hwr := wtC_R m d v6 t
        have hml : -21474836480 ≤ cnt v6 * wtC m d v6 t ∧ cnt v6 * wtC m d v6 t ≤ 21474836480 := by (have hc : cnt v6 = 0 ∨ cnt v6 = 1 ∨ cnt v6 = 2 ∨ cnt v6 = 3 ∨ cnt v6 = 4 ∨ cnt v6 = 5 ∨ cnt v6 = 6 ∨ cnt v6 = 7 ∨ cnt v6 = 8 ∨ cnt v6 = 9 ∨ cnt v6 = 10 := (by omega); obtain ⟨r1, r2⟩ := hwr; rcases hc with h | h | h | h | h | h | h | h | h | h | h <;> rw [h] <;> omega)
        refine x_lload (dtk dt_X6_placeSum 13 (22, .lload 4, 2) rfl) rfl ?_
        refine x_iload (dtk dt_X6_placeSum 14 (24, .iload 6, 2) rfl) rfl ?_
        refine kc_X6_98 rfl (dtk dt_X6_placeSum 15 (26, .invokestatic 98, 3) rfl) (c_J6_bitCount_0f7a4 (G := G)  ⟨by omega, by omega⟩) rfl rfl (fitR (by decide) (by decide)) (Nat.le_of_ble_eq_true rfl) (pqK ?_)
        refine x_i2l (dtk dt_X6_placeSum 16 (29, .i2l, 1) rfl) ?_
        refine x_aload_n (dtk dt_X6_placeSum 17 (30, .aload_n 0, 1) rfl) rfl ?_
        refine x_aload_n (dtk dt_X6_placeSum 18 (31, .aload_n 1, 1) rfl) rfl ?_
        refine x_iload (dtk dt_X6_placeSum 19 (32, .iload 6, 2) rfl) rfl ?_
        refine x_iload_n (dtk dt_X6_placeSum 20 (34, .iload_n 2, 1) rfl) rfl ?_
        refine kc_X6_94 rfl (dtk dt_X6_placeSum 21 (35, .invokevirtual 94, 3) rfl) (c_X6_waysThrough (G := G)  (hO.off_sx hs2_1) hE.2 ⟨by omega, by omega⟩ (by omega)) rfl rfl (wk_9 hO.wf) (fitR (by decide) (by decide)) (Nat.le_of_ble_eq_true rfl) (pqK ?_)
        refine x_i2l (dtk dt_X6_placeSum 22 (38, .i2l, 1) rfl) ?_
        refine x_lmul ⟨by omega, by omega⟩ (dtk dt_X6_placeSum 23 (39, .lmul, 1) rfl) ?_
        refine x_ladd ⟨by omega, by omega⟩ (dtk dt_X6_placeSum 24 (40, .ladd, 1) rfl) ?_
        refine x_lstore (dtk dt_X6_placeSum 25 (41, .lstore 4, 2) rfl) (by decide) ?_
        refine y_iinc (dtk dt_X6_placeSum 26 (43, .iinc 6 1, 3) rfl) rfl (by decide) ⟨by omega, by omega⟩ ?_
        refine x_goto (tgt := 16) (dtk dt_X6_placeSum 27 (46, .goto (-30), 3) rfl) (by decide) ?_
        refine MW.sub [2, 3, 4, 5, 1, 0] rfl ?_
        exact ih16 _ (by omega) _ _ (by omega) (by rw [sumZ_s h1.1, ← h2]) rfl
  refine MW.sub [3, 4, 5, 2, 1, 0] rfl ?_
  exact L16 _ _ _ (by omega) rfl rfl
set_option maxRecDepth 100000 in
set_option maxHeartbeats 4000000 in
theorem c_X6_firstFair {G : GG} {n : Nat} {K : KK} {M : MM} {p nm m : Int} {ci : Nat} {d : Int → Int} (hO : OB K M p ci nm m d) (hR : RC K M) : MC G mi_X6_firstFair 5 0 0 [(1, 9), (1, p)] n K M (UQ sx (some (0, fairC m d)) n K M (fun M' => RC K M')) := by
  refine MC.intro (lc := [(0, (1, 9)), (1, (1, p))]) (by decide) rfl (by simp [Nat.ble]) (Nat.le_of_ble_eq_true rfl) rfl (fun hMR => ?_)
  have hsz := hO.sz
  have hp := p2_b hsz
  have ht0 := tl_b (d := d) (s := 0) hsz ⟨by omega, by omega⟩
  refine x_aload_n (dtk dt_X6_firstFair 0 (0, .aload_n 0, 1) rfl) rfl ?_
  refine x_aload_n (dtk dt_X6_firstFair 1 (1, .aload_n 1, 1) rfl) rfl ?_
  refine kc_X6_62 rfl (dtk dt_X6_firstFair 2 (2, .invokevirtual 62, 3) rfl) (c_X6_total (G := G)  hO hR) rfl rfl (wk_9 hO.wf) (fitR (by decide) (by decide)) (Nat.le_of_ble_eq_true rfl) (uqK (fun M2_1 hs2_1 hE2_1 => ?_))
  have hE := hE2_1
  have hs0 := hs2_1
  refine x_istore_n (dtk dt_X6_firstFair 3 (5, .istore_n 2, 1) rfl) (by decide) ?_
  refine x_iconst (v := 0) ⟨by decide, by decide⟩ (dtk dt_X6_firstFair 4 (6, .iconst 0, 1) rfl) ?_
  refine x_istore_n (dtk dt_X6_firstFair 5 (7, .istore_n 3, 1) rfl) (by decide) ?_
  have L8 : ∀ (fu : Nat) (v3 : Int) (M3 : MM), (0 ≤ v3 ∧ v3 ≤ m) → (sx M M3) → (RC K M3) → (rs m (fun a => rs m (fun b => frC m d a b) (a + 1)) v3 = fairC m d) → (m - v3).toNat = fu → MW G mi_X6_firstFair (rmd 5 0 0) (MZ G (UQ sx (some (0, fairC m d)) n K M (fun M' => RC K M')) 0 0) (0, 0) 8 [(0, (1, 9)), (1, (1, p)), (2, (0, tl m d 0)), (3, (0, v3))] [] n K (M3) := by
    intro fu
    induction fu using Nat.strongRecOn with
    | ind fu ih8 =>
      intro v3 M3 h1 hs3 hR3 h2 hk8
      refine x_iload_n (dtk dt_X6_firstFair 6 (8, .iload_n 3, 1) rfl) rfl ?_
      refine x_aload_n (dtk dt_X6_firstFair 7 (9, .aload_n 1, 1) rfl) rfl ?_
      refine fg_X6_51 rfl (dtk dt_X6_firstFair 8 (10, .getfield 51, 3) rfl) hO.k hO.c (hO.off_sx hs3).n ?_
      refine x_icmp_ge (tgt := 90) (dtk dt_X6_firstFair 9 (13, .if_icmp .ge 77, 3) rfl) (by decide) (fun c13 => ?_) (fun c13 => ?_)
      · skip
        refine x_iconst (v := -1) ⟨by decide, by decide⟩ (dtk dt_X6_firstFair 51 (90, .iconst (-1), 1) rfl) ?_
        exact ru_i (dtk dt_X6_firstFair 52 (91, .ireturn, 1) rfl) rfl (by rw [rs_e (by omega)] at h2; exact h2) hs3 hR3
      · skip
        refine x_iload_n (dtk dt_X6_firstFair 10 (16, .iload_n 3, 1) rfl) rfl ?_
        refine x_iconst (v := 1) ⟨by decide, by decide⟩ (dtk dt_X6_firstFair 11 (17, .iconst 1, 1) rfl) ?_
        refine y_iadd (dtk dt_X6_firstFair 12 (18, .iadd, 1) rfl) ⟨by omega, by omega⟩ ?_
        refine x_istore (dtk dt_X6_firstFair 13 (19, .istore 4, 2) rfl) (by decide) ?_
        have L21 : ∀ (fu : Nat) (v4 : Int) (M4 : MM), (v3 < v4 ∧ v4 ≤ m) → (sx M M4) → (RC K M4) → (oe (rs m (fun b => frC m d v3 b) v4) (rs m (fun a => rs m (fun b => frC m d a b) (a + 1)) (v3 + 1)) = fairC m d) → (m - v4).toNat = fu → MW G mi_X6_firstFair (rmd 5 0 0) (MZ G (UQ sx (some (0, fairC m d)) n K M (fun M' => RC K M')) 0 0) (0, 0) 21 [(0, (1, 9)), (1, (1, p)), (2, (0, tl m d 0)), (3, (0, v3)), (4, (0, v4))] [] n K (M4) := by
          intro fu
          induction fu using Nat.strongRecOn with
          | ind fu ih21 =>
            intro v4 M4 h3 hs4 hR4 h4 hk21
            refine x_iload (dtk dt_X6_firstFair 14 (21, .iload 4, 2) rfl) rfl ?_
            refine x_aload_n (dtk dt_X6_firstFair 15 (23, .aload_n 1, 1) rfl) rfl ?_
            refine fg_X6_51 rfl (dtk dt_X6_firstFair 16 (24, .getfield 51, 3) rfl) hO.k hO.c (hO.off_sx hs4).n ?_
            refine x_icmp_ge (tgt := 84) (dtk dt_X6_firstFair 17 (27, .if_icmp .ge 57, 3) rfl) (by decide) (fun c27 => ?_) (fun c27 => ?_)
            · skip
              refine y_iinc (dtk dt_X6_firstFair 49 (84, .iinc 3 1, 3) rfl) rfl (by decide) ⟨by omega, by omega⟩ ?_
              refine x_goto (tgt := 8) (dtk dt_X6_firstFair 50 (87, .goto (-79), 3) rfl) (by decide) ?_
              refine MW.sub [1, 2, 3, 0] rfl ?_
              exact ih8 _ (by omega) _ _ (by omega) hs4 hR4 (by rw [rs_e (by omega), oe_m] at h4; exact h4) rfl
            · skip
              refine x_aload_n (dtk dt_X6_firstFair 18 (30, .aload_n 1, 1) rfl) rfl ?_
              refine x_iload_n (dtk dt_X6_firstFair 19 (31, .iload_n 3, 1) rfl) rfl ?_
              refine x_iload (dtk dt_X6_firstFair 20 (32, .iload 4, 2) rfl) rfl ?_
              refine kc_X6_103 rfl (dtk dt_X6_firstFair 21 (34, .invokevirtual 103, 3) rfl) (c_X4_areUnordered (G := G)  (hO.off_sx hs4) (by omega) (by omega)) rfl rfl hO.k hO.c (fitR (by decide) (by decide)) (Nat.le_of_ble_eq_true rfl) (pqK ?_)
              refine x_if_eqB (tgt := 78) (dtk dt_X6_firstFair 22 (37, .ifCond .eq 41, 3) rfl) (by decide) (fun c37 => ?_) (fun c37 => ?_)
              · skip
                refine y_iinc (dtk dt_X6_firstFair 47 (78, .iinc 4 1, 3) rfl) rfl (by decide) ⟨by omega, by omega⟩ ?_
                refine x_goto (tgt := 21) (dtk dt_X6_firstFair 48 (81, .goto (-60), 3) rfl) (by decide) ?_
                refine MW.sub [1, 2, 3, 4, 0] rfl ?_
                exact ih21 _ (by omega) _ _ (by omega) hs4 (by first | exact hR4 | exact hE2) (by rw [rs_s (by omega), show frC m d v3 v4 = -1 from if_neg (by first | (rw [c37]; simp; done) | (rw [c37]; simp; omega)), oe_m] at h4; exact h4) rfl
              · skip
                refine x_bipush (v := 11) ⟨by decide, by decide⟩ (dtk dt_X6_firstFair 23 (40, .bipush 11, 2) rfl) ?_
                refine x_aload_n (dtk dt_X6_firstFair 24 (42, .aload_n 0, 1) rfl) rfl ?_
                refine x_aload_n (dtk dt_X6_firstFair 25 (43, .aload_n 1, 1) rfl) rfl ?_
                refine x_iload_n (dtk dt_X6_firstFair 26 (44, .iload_n 3, 1) rfl) rfl ?_
                refine x_iload (dtk dt_X6_firstFair 27 (45, .iload 4, 2) rfl) rfl ?_
                refine kc_X6_106 rfl (dtk dt_X6_firstFair 28 (47, .invokevirtual 106, 3) rfl) (c_X6_aheadCount (G := G)  (hO.off_sx hs4) hR4 (by omega) (by omega)) rfl rfl (wk_9 hO.wf) (fitR (by decide) (by decide)) (Nat.le_of_ble_eq_true rfl) (uqK (fun M47_2 hs47_2 hE47_2 => ?_))
                have hE2 := hE47_2
                refine w_imul (dtk dt_X6_firstFair 29 (50, .imul, 1) rfl) ?_
                refine x_istore (dtk dt_X6_firstFair 30 (51, .istore 5, 2) rfl) (by decide) ?_
                refine x_iload (dtk dt_X6_firstFair 31 (53, .iload 5, 2) rfl) rfl ?_
                refine x_iconst (v := 3) ⟨by decide, by decide⟩ (dtk dt_X6_firstFair 32 (55, .iconst 3, 1) rfl) ?_
                refine x_iload_n (dtk dt_X6_firstFair 33 (56, .iload_n 2, 1) rfl) rfl ?_
                refine y_imul (dtk dt_X6_firstFair 34 (57, .imul, 1) rfl) ⟨by omega, by omega⟩ ?_
                refine x_icmp_lt (tgt := 78) (dtk dt_X6_firstFair 35 (58, .if_icmp .lt 20, 3) rfl) (by decide) (fun c58 => ?_) (fun c58 => ?_)
                · skip
                  refine y_iinc (dtk dt_X6_firstFair 47 (78, .iinc 4 1, 3) rfl) rfl (by decide) ⟨by omega, by omega⟩ ?_
                  refine x_goto (tgt := 21) (dtk dt_X6_firstFair 48 (81, .goto (-60), 3) rfl) (by decide) ?_
                  refine MW.sub [2, 3, 4, 5, 0] rfl ?_
                  exact ih21 _ (by omega) _ _ (by omega) (hs4.tr hs47_2) (by first | exact hR4 | exact hE2) (by rw [rs_s (by omega), show frC m d v3 v4 = -1 from if_neg (by first | (rw [c37]; simp; done) | (rw [c37]; simp; omega)), oe_m] at h4; exact h4) rfl
                · skip
                  refine x_iload (dtk dt_X6_firstFair 36 (61, .iload 5, 2) rfl) rfl ?_
                  refine x_bipush (v := 8) ⟨by decide, by decide⟩ (dtk dt_X6_firstFair 37 (63, .bipush 8, 2) rfl) ?_
                  refine x_iload_n (dtk dt_X6_firstFair 38 (65, .iload_n 2, 1) rfl) rfl ?_
                  refine y_imul (dtk dt_X6_firstFair 39 (66, .imul, 1) rfl) ⟨by omega, by omega⟩ ?_
                  refine x_icmp_gt (tgt := 78) (dtk dt_X6_firstFair 40 (67, .if_icmp .gt 11, 3) rfl) (by decide) (fun c67 => ?_) (fun c67 => ?_)
                  · skip
                    refine y_iinc (dtk dt_X6_firstFair 47 (78, .iinc 4 1, 3) rfl) rfl (by decide) ⟨by omega, by omega⟩ ?_
                    refine x_goto (tgt := 21) (dtk dt_X6_firstFair 48 (81, .goto (-60), 3) rfl) (by decide) ?_
                    refine MW.sub [2, 3, 4, 5, 0] rfl ?_
                    exact ih21 _ (by omega) _ _ (by omega) (hs4.tr hs47_2) (by first | exact hR4 | exact hE2) (by rw [rs_s (by omega), show frC m d v3 v4 = -1 from if_neg (by first | (rw [c37]; simp; done) | (rw [c37]; simp; omega)), oe_m] at h4; exact h4) rfl
                  · skip
                    refine x_bipush (v := 10) ⟨by decide, by decide⟩ (dtk dt_X6_firstFair 41 (70, .bipush 10, 2) rfl) ?_
                    refine x_iload_n (dtk dt_X6_firstFair 42 (72, .iload_n 3, 1) rfl) rfl ?_
                    refine y_imul (dtk dt_X6_firstFair 43 (73, .imul, 1) rfl) ⟨by omega, by omega⟩ ?_
                    refine x_iload (dtk dt_X6_firstFair 44 (74, .iload 4, 2) rfl) rfl ?_
                    refine y_iadd (dtk dt_X6_firstFair 45 (76, .iadd, 1) rfl) ⟨by omega, by omega⟩ ?_
                    exact ru_i (dtk dt_X6_firstFair 46 (77, .ireturn, 1) rfl) rfl (by rw [rs_s (by omega), show frC m d v3 v4 = 10 * v3 + v4 from if_pos (by rw [c37]; simp; omega), oe_n (x := 10 * v3 + v4) (by omega), oe_n (x := 10 * v3 + v4) (by omega)] at h4; exact h4) (hs4.tr hs47_2) hE2
        refine MW.sub [1, 2, 3, 4, 0] rfl ?_
        exact L21 _ _ _ (by omega) hs3 hR3 (by rw [rs_s (by omega)] at h2; exact h2) rfl
  refine MW.sub [2, 3, 1, 0] rfl ?_
  exact L8 _ _ _ (by omega) hs2_1 hE.1 rfl rfl
