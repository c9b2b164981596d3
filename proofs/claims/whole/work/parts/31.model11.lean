/-! ===== the model: rows out ===== -/
set_option maxRecDepth 100000 in
set_option maxHeartbeats 4000000 in
theorem c_X12_count0 {G : GG} {n : Nat} {K : KK} {M : MM} {o : Int} {m : Int} {d : Int → Int} (hA : AT K M o m d) : MC G mi_X12_count0 4 0 0 [(1, 36), (0, o)] n K M (SQ (some (0, tl m d 0)) n K M (fun M' => (∀ s, 0 ≤ s → s < p2 m → M' 47 s = wyS m d 0 0 (p2 m) s) ∧ ∀ s, 0 ≤ s → s < p2 m → M' 48 s = tl m d s)) := by
  refine MC.intro (lc := [(0, (1, 36)), (1, (0, o))]) (by decide) rfl (by simp [Nat.ble]) (Nat.le_of_ble_eq_true rfl) rfl (fun hMR => ?_)
  have ho := hA.2.1
  have hsz := hA.ok.1
  have hp := p2_b hsz
  refine x_aload_n (dtk dt_X12_count0 0 (0, .aload_n 0, 1) rfl) rfl ?_
  refine x_iload_n (dtk dt_X12_count0 1 (1, .iload_n 1, 1) rfl) rfl ?_
  refine x_iconst (v := 0) ⟨by decide, by decide⟩ (dtk dt_X12_count0 2 (2, .iconst 0, 1) rfl) ?_
  refine x_iconst (v := 0) ⟨by decide, by decide⟩ (dtk dt_X12_count0 3 (3, .iconst 0, 1) rfl) ?_
  refine kc_X12_146 rfl (dtk dt_X12_count0 4 (4, .invokevirtual 146, 3) rfl) (c_X12_layAll (G := G) (a := 0) (b := 0) hA (by omega)) rfl rfl (wk_36 hA.wf) (fitR (by decide) (by decide)) (Nat.le_of_ble_eq_true rfl) (sqK (fun M4_1 hs4_1 hE4_1 => ?_))
  have hE := hE4_1
  refine x_aload_n (dtk dt_X12_count0 5 (7, .aload_n 0, 1) rfl) rfl ?_
  refine fg_X12_47 rfl (dtk dt_X12_count0 6 (8, .getfield 47, 3) rfl) (wk_36 hA.wf) (wm_36_17 (hA.off hs4_1).wf) ?_
  refine x_iconst (v := 0) ⟨by decide, by decide⟩ (dtk dt_X12_count0 7 (11, .iconst 0, 1) rfl) ?_
  refine x_iald (dtk dt_X12_count0 8 (12, .iaload, 1) rfl) (wk_48 hA.wf) ⟨by omega, by omega⟩ ?_
  rw [hE.2 0 (by omega) (by omega)]
  exact rs_i (dtk dt_X12_count0 9 (13, .ireturn, 1) rfl) rfl rfl hs4_1 hE
set_option maxRecDepth 100000 in
set_option maxHeartbeats 4000000 in
theorem c_X12_before {G : GG} {n : Nat} {K : KK} {M : MM} {o a b : Int} (hm : MO K M) : MC G mi_X12_before 4 0 0 [(1, 36), (0, o), (0, a), (0, b)] n K M (SQ (some (0, if isTh M o a && isTh M o b && decide (a ≠ b) then lyF (M 38 o) (dM M o) a b 0 else -1)) n K M (fun _ => True)) := by
  refine MC.intro (lc := [(0, (1, 36)), (1, (0, o)), (2, (0, a)), (3, (0, b))]) (by decide) rfl (by simp [Nat.ble]) (Nat.le_of_ble_eq_true rfl) rfl (fun hMR => ?_)
  refine x_aload_n (dtk dt_X12_before 0 (0, .aload_n 0, 1) rfl) rfl ?_
  refine x_iload_n (dtk dt_X12_before 1 (1, .iload_n 1, 1) rfl) rfl ?_
  refine x_iload_n (dtk dt_X12_before 2 (2, .iload_n 2, 1) rfl) rfl ?_
  refine kc_X12_110 rfl (dtk dt_X12_before 3 (3, .invokevirtual 110, 3) rfl) (c_X12_isThing (G := G)  hm) rfl rfl (wk_36 hm.1) (fitR (by decide) (by decide)) (Nat.le_of_ble_eq_true rfl) (pqK ?_)
  refine x_if_eqB (tgt := 23) (dtk dt_X12_before 4 (6, .ifCond .eq 17, 3) rfl) (by decide) (fun c6 => ?_) (fun c6 => ?_)
  · skip
    refine x_iconst (v := -1) ⟨by decide, by decide⟩ (dtk dt_X12_before 13 (23, .iconst (-1), 1) rfl) ?_
    exact rs_i (dtk dt_X12_before 14 (24, .ireturn, 1) rfl) rfl (by simp_all) sc.rf trivial
  · skip
    refine x_aload_n (dtk dt_X12_before 5 (9, .aload_n 0, 1) rfl) rfl ?_
    refine x_iload_n (dtk dt_X12_before 6 (10, .iload_n 1, 1) rfl) rfl ?_
    refine x_iload_n (dtk dt_X12_before 7 (11, .iload_n 3, 1) rfl) rfl ?_
    refine kc_X12_110 rfl (dtk dt_X12_before 8 (12, .invokevirtual 110, 3) rfl) (c_X12_isThing (G := G)  hm) rfl rfl (wk_36 hm.1) (fitR (by decide) (by decide)) (Nat.le_of_ble_eq_true rfl) (pqK ?_)
    refine x_if_eqB (tgt := 23) (dtk dt_X12_before 9 (15, .ifCond .eq 8, 3) rfl) (by decide) (fun c15 => ?_) (fun c15 => ?_)
    · skip
      refine x_iconst (v := -1) ⟨by decide, by decide⟩ (dtk dt_X12_before 13 (23, .iconst (-1), 1) rfl) ?_
      exact rs_i (dtk dt_X12_before 14 (24, .ireturn, 1) rfl) rfl (by simp_all) sc.rf trivial
    · skip
      refine x_iload_n (dtk dt_X12_before 10 (18, .iload_n 2, 1) rfl) rfl ?_
      refine x_iload_n (dtk dt_X12_before 11 (19, .iload_n 3, 1) rfl) rfl ?_
      refine x_icmp_ne (tgt := 25) (dtk dt_X12_before 12 (20, .if_icmp .ne 5, 3) rfl) (by decide) (fun c20 => ?_) (fun c20 => ?_)
      · skip
        have ht := isTh_of hm c6
        have ht2 := isTh_of hm c15
        have hA : AT K M o (M 38 o) (dM M o) := ⟨hm, ht.1, rfl, rfl⟩
        have hp := p2_b hA.ok.1
        refine x_aload_n (dtk dt_X12_before 15 (25, .aload_n 0, 1) rfl) rfl ?_
        refine x_iload_n (dtk dt_X12_before 16 (26, .iload_n 1, 1) rfl) rfl ?_
        refine x_iload_n (dtk dt_X12_before 17 (27, .iload_n 2, 1) rfl) rfl ?_
        refine x_iload_n (dtk dt_X12_before 18 (28, .iload_n 3, 1) rfl) rfl ?_
        refine kc_X12_146 rfl (dtk dt_X12_before 19 (29, .invokevirtual 146, 3) rfl) (c_X12_layAll (G := G) (a := a) (b := b) hA (by omega)) rfl rfl (wk_36 hA.wf) (fitR (by decide) (by decide)) (Nat.le_of_ble_eq_true rfl) (sqK (fun M29_1 hs29_1 hE29_1 => ?_))
        have hE := hE29_1
        refine x_aload_n (dtk dt_X12_before 20 (32, .aload_n 0, 1) rfl) rfl ?_
        refine fg_X12_47 rfl (dtk dt_X12_before 21 (33, .getfield 47, 3) rfl) (wk_36 hA.wf) (wm_36_17 (hA.off hs29_1).wf) ?_
        refine x_iconst (v := 0) ⟨by decide, by decide⟩ (dtk dt_X12_before 22 (36, .iconst 0, 1) rfl) ?_
        refine x_iald (dtk dt_X12_before 23 (37, .iaload, 1) rfl) (wk_48 hA.wf) ⟨by omega, by omega⟩ ?_
        rw [hE.2 0 (by omega) (by omega)]
        exact rs_i (dtk dt_X12_before 24 (38, .ireturn, 1) rfl) rfl (by simp_all) hs29_1 trivial
      · skip
        refine x_iconst (v := -1) ⟨by decide, by decide⟩ (dtk dt_X12_before 13 (23, .iconst (-1), 1) rfl) ?_
        exact rs_i (dtk dt_X12_before 14 (24, .ireturn, 1) rfl) rfl (by simp_all) sc.rf trivial
set_option maxRecDepth 100000 in
set_option maxHeartbeats 4000000 in
theorem c_X12_find {G : GG} {n : Nat} {K : KK} {M : MM} {o rk : Int} {m : Int} {d : Int → Int} (hA : AT K M o m d) : MC G mi_X12_find 5 0 0 [(1, 36), (0, o), (0, rk)] n K M (SQ (some (0, B (decide (0 ≤ rk) && decide (rk < tl m d 0)))) n K M (fun M' => (decide (0 ≤ rk) && decide (rk < tl m d 0)) = true → ∀ k, 0 ≤ k → k < m → M' 50 k = fdO m d rk k)) := by
  refine MC.intro (lc := [(0, (1, 36)), (1, (0, o)), (2, (0, rk))]) (by decide) rfl (by simp [Nat.ble]) (Nat.le_of_ble_eq_true rfl) rfl (fun hMR => ?_)
  have ho := hA.2.1
  have hsz := hA.ok.1
  have hp := p2_b hsz
  have ht0 := ly_b10 (d := d) (a := 0) (b := 0) (s := 0) hsz (by omega)
  change 0 ≤ tl m d 0 ∧ tl m d 0 ≤ 3628800 at ht0
  refine x_aload_n (dtk dt_X12_find 0 (0, .aload_n 0, 1) rfl) rfl ?_
  refine x_iload_n (dtk dt_X12_find 1 (1, .iload_n 1, 1) rfl) rfl ?_
  refine kc_X12_149 rfl (dtk dt_X12_find 2 (2, .invokevirtual 149, 3) rfl) (c_X12_count0 (G := G)  hA) rfl rfl (wk_36 hA.wf) (fitR (by decide) (by decide)) (Nat.le_of_ble_eq_true rfl) (sqK (fun M2_1 hs2_1 hE2_1 => ?_))
  have hE := hE2_1
  refine x_istore_n (dtk dt_X12_find 3 (5, .istore_n 3, 1) rfl) (by decide) ?_
  refine x_iload_n (dtk dt_X12_find 4 (6, .iload_n 2, 1) rfl) rfl ?_
  refine x_iconst (v := 0) ⟨by decide, by decide⟩ (dtk dt_X12_find 5 (7, .iconst 0, 1) rfl) ?_
  refine x_iload_n (dtk dt_X12_find 6 (8, .iload_n 3, 1) rfl) rfl ?_
  refine x_iconst (v := 1) ⟨by decide, by decide⟩ (dtk dt_X12_find 7 (9, .iconst 1, 1) rfl) ?_
  refine y_isub (dtk dt_X12_find 8 (10, .isub, 1) rfl) ⟨by omega, by omega⟩ ?_
  refine kc_X12_74 rfl (dtk dt_X12_find 9 (11, .invokestatic 74, 3) rfl) (c_X12_in (G := G)  ) rfl rfl (fitR (by decide) (by decide)) (Nat.le_of_ble_eq_true rfl) (pqK ?_)
  refine x_if_neB (tgt := 19) (dtk dt_X12_find 10 (14, .ifCond .ne 5, 3) rfl) (by decide) (fun c14 => ?_) (fun c14 => ?_)
  · skip
    have hrk : 0 ≤ rk ∧ rk < tl m d 0 := by (simp at c14; omega)
    refine x_iload_n (dtk dt_X12_find 13 (19, .iload_n 2, 1) rfl) rfl ?_
    refine x_istore (dtk dt_X12_find 14 (20, .istore 4, 2) rfl) (by decide) ?_
    refine x_iconst (v := 0) ⟨by decide, by decide⟩ (dtk dt_X12_find 15 (22, .iconst 0, 1) rfl) ?_
    refine x_istore (dtk dt_X12_find 16 (23, .istore 5, 2) rfl) (by decide) ?_
    refine x_iconst (v := 0) ⟨by decide, by decide⟩ (dtk dt_X12_find 17 (25, .iconst 0, 1) rfl) ?_
    refine x_istore (dtk dt_X12_find 18 (26, .istore 6, 2) rfl) (by decide) ?_
    have L28 : ∀ (fu : Nat) (v4 : Int) (v5 : Int) (v6 : Int) (M1 : MM), (0 ≤ v6 ∧ v6 ≤ m) → (0 ≤ v5 ∧ v5 < p2 m) → (cnt v5 = v6) → (0 ≤ v4 ∧ v4 < tl m d v5) → (fdS m d rk v6 = (v5, v4)) → (sc M M1) → (∀ s, 0 ≤ s → s < p2 m → M1 48 s = tl m d s) → (∀ k, 0 ≤ k → k < v6 → M1 50 k = fdO m d rk k) → (m - v6).toNat = fu → MW G mi_X12_find (rmd 5 0 0) (MZ G (SQ (some (0, B (decide (0 ≤ rk) && decide (rk < tl m d 0)))) n K M (fun M' => (decide (0 ≤ rk) && decide (rk < tl m d 0)) = true → ∀ k, 0 ≤ k → k < m → M' 50 k = fdO m d rk k)) 0 0) (0, 0) 28 [(0, (1, 36)), (1, (0, o)), (2, (0, rk)), (3, (0, tl m d 0)), (4, (0, v4)), (5, (0, v5)), (6, (0, v6))] [] n K (M1) := by
      intro fu
      induction fu using Nat.strongRecOn with
      | ind fu ih28 =>
        intro v4 v5 v6 M1 h1 h2 h3 h4 h5 hs hL hO hk28
        refine x_iload (dtk dt_X12_find 19 (28, .iload 6, 2) rfl) rfl ?_
        refine x_aload_n (dtk dt_X12_find 20 (30, .aload_n 0, 1) rfl) rfl ?_
        refine fg_X12_13 rfl (dtk dt_X12_find 21 (31, .getfield 13, 3) rfl) (wk_36 hA.wf) (wm_36_2 (hA.off hs).wf) ?_
        refine x_iload_n (dtk dt_X12_find 22 (34, .iload_n 1, 1) rfl) rfl ?_
        refine x_iald (dtk dt_X12_find 23 (35, .iaload, 1) rfl) (wk_38 hA.wf) ⟨by omega, by omega⟩ ?_
        rw [(hA.off hs).sz]
        refine x_icmp_ge (tgt := 138) (dtk dt_X12_find 24 (36, .if_icmp .ge 102, 3) rfl) (by decide) (fun c36 => ?_) (fun c36 => ?_)
        · skip
          refine x_iconst (v := 1) ⟨by decide, by decide⟩ (dtk dt_X12_find 81 (138, .iconst 1, 1) rfl) ?_
          exact rs_b (b := true) (dtk dt_X12_find 82 (139, .ireturn, 1) rfl) rfl (by simp; omega) hs (fun _ k h0 h1 => hO k h0 (by omega))
        · skip
          have hna := all_of_cnt hsz h2 (by omega)
          have hsum := ly_sum (d := d) (a := 0) (b := 0) hsz h2
          rw [show B (decide (v5 = p2 m - 1)) = 0 by simp [hna, B], Int.zero_add] at hsum
          change tl m d v5 = sumZ m (fun c => if can d v5 c then tl m d (plus v5 c) else 0) at hsum
          refine x_iconst (v := 0) ⟨by decide, by decide⟩ (dtk dt_X12_find 25 (39, .iconst 0, 1) rfl) ?_
          refine x_istore (dtk dt_X12_find 26 (40, .istore 7, 2) rfl) (by decide) ?_
          have L42 : ∀ (fu : Nat) (w4 : Int) (v7 : Int), (0 ≤ v7 ∧ v7 ≤ m) → (0 ≤ w4 ∧ w4 ≤ v4) → (w4 = v4 - sumZ v7 (fun c => if can d v5 c then tl m d (plus v5 c) else 0)) → (fdN m d v5 (m - v7).toNat w4 v7 = fd m d v5 v4) → (m - v7).toNat = fu → MW G mi_X12_find (rmd 5 0 0) (MZ G (SQ (some (0, B (decide (0 ≤ rk) && decide (rk < tl m d 0)))) n K M (fun M' => (decide (0 ≤ rk) && decide (rk < tl m d 0)) = true → ∀ k, 0 ≤ k → k < m → M' 50 k = fdO m d rk k)) 0 0) (0, 0) 42 [(0, (1, 36)), (1, (0, o)), (2, (0, rk)), (3, (0, tl m d 0)), (4, (0, w4)), (5, (0, v5)), (6, (0, v6)), (7, (0, v7))] [] n K (M1) := by
            intro fu
            induction fu using Nat.strongRecOn with
            | ind fu ih42 =>
              intro w4 v7 g1 g3 g4 g5 hk42
              have hv7 : v7 < m := by (by_cases hq : v7 < m; exact hq; (rw [show v7 = m by omega, ← hsum] at g4; omega))
              have hpl := plus_in (c := v7) hsz h2 ⟨g1.1, hv7⟩
              have htp := ly_b10 (d := d) (a := 0) (b := 0) hsz hpl
              change 0 ≤ tl m d (plus v5 v7) ∧ tl m d (plus v5 v7) ≤ 3628800 at htp
              have htv := ly_b10 (d := d) (a := 0) (b := 0) hsz h2
              change 0 ≤ tl m d v5 ∧ tl m d v5 ≤ 3628800 at htv
              refine x_aload_n (dtk dt_X12_find 27 (42, .aload_n 0, 1) rfl) rfl ?_
              refine x_iload_n (dtk dt_X12_find 28 (43, .iload_n 1, 1) rfl) rfl ?_
              refine x_iload (dtk dt_X12_find 29 (44, .iload 5, 2) rfl) rfl ?_
              refine x_iload (dtk dt_X12_find 30 (46, .iload 7, 2) rfl) rfl ?_
              refine x_iconst (v := 0) ⟨by decide, by decide⟩ (dtk dt_X12_find 31 (48, .iconst 0, 1) rfl) ?_
              refine x_iconst (v := 0) ⟨by decide, by decide⟩ (dtk dt_X12_find 32 (49, .iconst 0, 1) rfl) ?_
              refine kc_X12_142 rfl (dtk dt_X12_find 33 (50, .invokevirtual 142, 3) rfl) (c_X12_may (G := G)  (hA.off hs) ⟨by omega, by omega⟩ (by omega) (by omega)) rfl rfl (wk_36 hA.wf) (fitR (by decide) (by decide)) (Nat.le_of_ble_eq_true rfl) (pqK ?_)
              change MW G _ _ _ _ _ _ ((0, B (can d v5 v7)) :: _) _ _ _
              refine x_if_eqB (tgt := 73) (dtk dt_X12_find 34 (53, .ifCond .eq 20, 3) rfl) (by decide) (fun c53 => ?_) (fun c53 => ?_)
              · skip
                refine x_iload (dtk dt_X12_find 45 (73, .iload 4, 2) rfl) rfl ?_
                refine x_aload_n (dtk dt_X12_find 46 (75, .aload_n 0, 1) rfl) rfl ?_
                refine x_iload_n (dtk dt_X12_find 47 (76, .iload_n 1, 1) rfl) rfl ?_
                refine x_iload (dtk dt_X12_find 48 (77, .iload 5, 2) rfl) rfl ?_
                refine x_iload (dtk dt_X12_find 49 (79, .iload 7, 2) rfl) rfl ?_
                refine x_iconst (v := 0) ⟨by decide, by decide⟩ (dtk dt_X12_find 50 (81, .iconst 0, 1) rfl) ?_
                refine x_iconst (v := 0) ⟨by decide, by decide⟩ (dtk dt_X12_find 51 (82, .iconst 0, 1) rfl) ?_
                refine kc_X12_142 rfl (dtk dt_X12_find 52 (83, .invokevirtual 142, 3) rfl) (c_X12_may (G := G)  (hA.off hs) ⟨by omega, by omega⟩ (by omega) (by omega)) rfl rfl (wk_36 hA.wf) (fitR (by decide) (by decide)) (Nat.le_of_ble_eq_true rfl) (pqK ?_)
                change MW G _ _ _ _ _ _ ((0, B (can d v5 v7)) :: _) _ _ _
                refine x_if_eqB (tgt := 104) (dtk dt_X12_find 53 (86, .ifCond .eq 18, 3) rfl) (by decide) (fun c86 => ?_) (fun c86 => ?_)
                · skip
                  have cm : can d v5 v7 = false := c86
                  refine x_iconst (v := 0) ⟨by decide, by decide⟩ (dtk dt_X12_find 63 (104, .iconst 0, 1) rfl) ?_
                  refine y_isub (dtk dt_X12_find 64 (105, .isub, 1) rfl) ⟨by omega, by omega⟩ ?_
                  refine x_istore (dtk dt_X12_find 65 (106, .istore 4, 2) rfl) (by decide) ?_
                  refine y_iinc (dtk dt_X12_find 66 (108, .iinc 7 1, 3) rfl) rfl (by decide) ⟨by omega, by omega⟩ ?_
                  refine x_goto (tgt := 42) (dtk dt_X12_find 67 (111, .goto (-69), 3) rfl) (by decide) ?_
                  refine MW.sub [2, 3, 4, 5, 1, 6, 7, 0] rfl ?_
                  exact ih42 _ (by omega) _ _ (by omega) (by omega) (by rw [sumZ_s (by omega)]; first | (rw [if_pos cm]; omega) | (rw [if_neg (by rw [cm]; decide)]; omega)) (by rw [fdN_s (by omega)] at g5; first | (rw [if_neg (by simp [cm]; omega), if_pos cm] at g5; exact g5) | (rw [if_neg (by simp [cm]), if_neg (by rw [cm]; decide)] at g5; exact g5)) rfl
                · skip
                  have cm : can d v5 v7 = true := c86
                  have cr : tl m d (plus v5 v7) ≤ w4 := by first | omega | (rw [cm] at c53; exact absurd c53 (by decide))
                  refine x_aload_n (dtk dt_X12_find 54 (89, .aload_n 0, 1) rfl) rfl ?_
                  refine fg_X12_47 rfl (dtk dt_X12_find 55 (90, .getfield 47, 3) rfl) (wk_36 hA.wf) (wm_36_17 (hA.off hs).wf) ?_
                  refine x_iload (dtk dt_X12_find 56 (93, .iload 5, 2) rfl) rfl ?_
                  refine x_iconst (v := 1) ⟨by decide, by decide⟩ (dtk dt_X12_find 57 (95, .iconst 1, 1) rfl) ?_
                  refine x_iload (dtk dt_X12_find 58 (96, .iload 7, 2) rfl) rfl ?_
                  refine x_ishl (dtk dt_X12_find 59 (98, .ishl, 1) rfl) ?_
                  refine x_ior (dtk dt_X12_find 60 (99, .ior, 1) rfl) ?_
                  change MW G _ _ _ _ _ _ ((0, plus v5 v7) :: _) _ _ _
                  refine x_iald (dtk dt_X12_find 61 (100, .iaload, 1) rfl) (wk_48 hA.wf) ⟨by omega, by omega⟩ ?_
                  rw [hL _ hpl.1 hpl.2]
                  refine x_goto (tgt := 105) (dtk dt_X12_find 62 (101, .goto 4, 3) rfl) (by decide) ?_
                  refine y_isub (dtk dt_X12_find 64 (105, .isub, 1) rfl) ⟨by omega, by omega⟩ ?_
                  refine x_istore (dtk dt_X12_find 65 (106, .istore 4, 2) rfl) (by decide) ?_
                  refine y_iinc (dtk dt_X12_find 66 (108, .iinc 7 1, 3) rfl) rfl (by decide) ⟨by omega, by omega⟩ ?_
                  refine x_goto (tgt := 42) (dtk dt_X12_find 67 (111, .goto (-69), 3) rfl) (by decide) ?_
                  refine MW.sub [2, 3, 4, 5, 1, 6, 7, 0] rfl ?_
                  exact ih42 _ (by omega) _ _ (by omega) (by omega) (by rw [sumZ_s (by omega)]; first | (rw [if_pos cm]; omega) | (rw [if_neg (by rw [cm]; decide)]; omega)) (by rw [fdN_s (by omega)] at g5; first | (rw [if_neg (by simp [cm]; omega), if_pos cm] at g5; exact g5) | (rw [if_neg (by simp [cm]), if_neg (by rw [cm]; decide)] at g5; exact g5)) rfl
              · skip
                refine x_iload (dtk dt_X12_find 35 (56, .iload 4, 2) rfl) rfl ?_
                refine x_aload_n (dtk dt_X12_find 36 (58, .aload_n 0, 1) rfl) rfl ?_
                refine fg_X12_47 rfl (dtk dt_X12_find 37 (59, .getfield 47, 3) rfl) (wk_36 hA.wf) (wm_36_17 (hA.off hs).wf) ?_
                refine x_iload (dtk dt_X12_find 38 (62, .iload 5, 2) rfl) rfl ?_
                refine x_iconst (v := 1) ⟨by decide, by decide⟩ (dtk dt_X12_find 39 (64, .iconst 1, 1) rfl) ?_
                refine x_iload (dtk dt_X12_find 40 (65, .iload 7, 2) rfl) rfl ?_
                refine x_ishl (dtk dt_X12_find 41 (67, .ishl, 1) rfl) ?_
                refine x_ior (dtk dt_X12_find 42 (68, .ior, 1) rfl) ?_
                change MW G _ _ _ _ _ _ ((0, plus v5 v7) :: _) _ _ _
                refine x_iald (dtk dt_X12_find 43 (69, .iaload, 1) rfl) (wk_48 hA.wf) ⟨by omega, by omega⟩ ?_
                rw [hL _ hpl.1 hpl.2]
                refine x_icmp_lt (tgt := 114) (dtk dt_X12_find 44 (70, .if_icmp .lt 44, 3) rfl) (by decide) (fun c70 => ?_) (fun c70 => ?_)
                · skip
                  have hcan : can d v5 v7 = true := c53
                  have hfin : (if can d v5 v7 && decide (w4 < tl m d (plus v5 v7)) then (v7, w4) else fdN m d v5 (m - (v7 + 1)).toNat (w4 - (if can d v5 v7 then tl m d (plus v5 v7) else 0)) (v7 + 1)) = (v7, w4) := by (rw [if_pos]; simp [hcan]; omega)
                  refine x_aload_n (dtk dt_X12_find 68 (114, .aload_n 0, 1) rfl) rfl ?_
                  refine fg_X12_53 rfl (dtk dt_X12_find 69 (115, .getfield 53, 3) rfl) (wk_36 hA.wf) (wm_36_19 (hA.off hs).wf) ?_
                  refine x_iload (dtk dt_X12_find 70 (118, .iload 6, 2) rfl) rfl ?_
                  refine x_iload (dtk dt_X12_find 71 (120, .iload 7, 2) rfl) rfl ?_
                  refine x_iast (dtk dt_X12_find 72 (122, .iastore, 1) rfl) (wk_50 hA.wf) ⟨by omega, by omega⟩ ?_
                  refine x_iload (dtk dt_X12_find 73 (123, .iload 5, 2) rfl) rfl ?_
                  refine x_iconst (v := 1) ⟨by decide, by decide⟩ (dtk dt_X12_find 74 (125, .iconst 1, 1) rfl) ?_
                  refine x_iload (dtk dt_X12_find 75 (126, .iload 7, 2) rfl) rfl ?_
                  refine x_ishl (dtk dt_X12_find 76 (128, .ishl, 1) rfl) ?_
                  refine x_ior (dtk dt_X12_find 77 (129, .ior, 1) rfl) ?_
                  change MW G _ _ _ _ _ _ ((0, plus v5 v7) :: _) _ _ _
                  refine x_istore (dtk dt_X12_find 78 (130, .istore 5, 2) rfl) (by decide) ?_
                  refine y_iinc (dtk dt_X12_find 79 (132, .iinc 6 1, 3) rfl) rfl (by decide) ⟨by omega, by omega⟩ ?_
                  refine x_goto (tgt := 28) (dtk dt_X12_find 80 (135, .goto (-107), 3) rfl) (by decide) ?_
                  refine MW.sub [2, 3, 4, 5, 6, 1, 0] rfl ?_
                  exact ih28 _ (by omega) _ _ _ _ (by omega) hpl (by rw [cnt_plus ⟨by omega, by omega⟩ (by omega) (may_nb hcan), h3]) (by omega) (by rw [fdS_s h1.1]; unfold fdO; rw [h5]; show (plus v5 (fd m d v5 v4).1, (fd m d v5 v4).2) = _; rw [← g5, fdN_s (by omega), hfin]) (sc.st 50 rfl hs) (fun s h0 h1 => by rw [st2_ne _ (show (48 : Int) ≠ 50 by decide)]; exact hL s h0 h1) (fun k h0 h1 => by by_cases hq : k = v6; (rw [hq, st2_self]; unfold fdO; rw [h5]; show _ = (fd m d v5 v4).1; rw [← g5, fdN_s (by omega), hfin]); (rw [st2_o _ hq]; exact hO k h0 (by omega))) rfl
                · skip
                  refine x_iload (dtk dt_X12_find 45 (73, .iload 4, 2) rfl) rfl ?_
                  refine x_aload_n (dtk dt_X12_find 46 (75, .aload_n 0, 1) rfl) rfl ?_
                  refine x_iload_n (dtk dt_X12_find 47 (76, .iload_n 1, 1) rfl) rfl ?_
                  refine x_iload (dtk dt_X12_find 48 (77, .iload 5, 2) rfl) rfl ?_
                  refine x_iload (dtk dt_X12_find 49 (79, .iload 7, 2) rfl) rfl ?_
                  refine x_iconst (v := 0) ⟨by decide, by decide⟩ (dtk dt_X12_find 50 (81, .iconst 0, 1) rfl) ?_
                  refine x_iconst (v := 0) ⟨by decide, by decide⟩ (dtk dt_X12_find 51 (82, .iconst 0, 1) rfl) ?_
                  refine kc_X12_142 rfl (dtk dt_X12_find 52 (83, .invokevirtual 142, 3) rfl) (c_X12_may (G := G)  (hA.off hs) ⟨by omega, by omega⟩ (by omega) (by omega)) rfl rfl (wk_36 hA.wf) (fitR (by decide) (by decide)) (Nat.le_of_ble_eq_true rfl) (pqK ?_)
                  change MW G _ _ _ _ _ _ ((0, B (can d v5 v7)) :: _) _ _ _
                  refine x_if_eqB (tgt := 104) (dtk dt_X12_find 53 (86, .ifCond .eq 18, 3) rfl) (by decide) (fun c86 => ?_) (fun c86 => ?_)
                  · skip
                    have cm : can d v5 v7 = false := c86
                    refine x_iconst (v := 0) ⟨by decide, by decide⟩ (dtk dt_X12_find 63 (104, .iconst 0, 1) rfl) ?_
                    refine y_isub (dtk dt_X12_find 64 (105, .isub, 1) rfl) ⟨by omega, by omega⟩ ?_
                    refine x_istore (dtk dt_X12_find 65 (106, .istore 4, 2) rfl) (by decide) ?_
                    refine y_iinc (dtk dt_X12_find 66 (108, .iinc 7 1, 3) rfl) rfl (by decide) ⟨by omega, by omega⟩ ?_
                    refine x_goto (tgt := 42) (dtk dt_X12_find 67 (111, .goto (-69), 3) rfl) (by decide) ?_
                    refine MW.sub [2, 3, 4, 5, 1, 6, 7, 0] rfl ?_
                    exact ih42 _ (by omega) _ _ (by omega) (by omega) (by rw [sumZ_s (by omega)]; first | (rw [if_pos cm]; omega) | (rw [if_neg (by rw [cm]; decide)]; omega)) (by rw [fdN_s (by omega)] at g5; first | (rw [if_neg (by simp [cm]; omega), if_pos cm] at g5; exact g5) | (rw [if_neg (by simp [cm]), if_neg (by rw [cm]; decide)] at g5; exact g5)) rfl
                  · skip
                    have cm : can d v5 v7 = true := c86
                    have cr : tl m d (plus v5 v7) ≤ w4 := by first | omega | (rw [cm] at c53; exact absurd c53 (by decide))
                    refine x_aload_n (dtk dt_X12_find 54 (89, .aload_n 0, 1) rfl) rfl ?_
                    refine fg_X12_47 rfl (dtk dt_X12_find 55 (90, .getfield 47, 3) rfl) (wk_36 hA.wf) (wm_36_17 (hA.off hs).wf) ?_
                    refine x_iload (dtk dt_X12_find 56 (93, .iload 5, 2) rfl) rfl ?_
                    refine x_iconst (v := 1) ⟨by decide, by decide⟩ (dtk dt_X12_find 57 (95, .iconst 1, 1) rfl) ?_
                    refine x_iload (dtk dt_X12_find 58 (96, .iload 7, 2) rfl) rfl ?_
                    refine x_ishl (dtk dt_X12_find 59 (98, .ishl, 1) rfl) ?_
                    refine x_ior (dtk dt_X12_find 60 (99, .ior, 1) rfl) ?_
                    change MW G _ _ _ _ _ _ ((0, plus v5 v7) :: _) _ _ _
                    refine x_iald (dtk dt_X12_find 61 (100, .iaload, 1) rfl) (wk_48 hA.wf) ⟨by omega, by omega⟩ ?_
                    rw [hL _ hpl.1 hpl.2]
                    refine x_goto (tgt := 105) (dtk dt_X12_find 62 (101, .goto 4, 3) rfl) (by decide) ?_
                    refine y_isub (dtk dt_X12_find 64 (105, .isub, 1) rfl) ⟨by omega, by omega⟩ ?_
                    refine x_istore (dtk dt_X12_find 65 (106, .istore 4, 2) rfl) (by decide) ?_
                    refine y_iinc (dtk dt_X12_find 66 (108, .iinc 7 1, 3) rfl) rfl (by decide) ⟨by omega, by omega⟩ ?_
                    refine x_goto (tgt := 42) (dtk dt_X12_find 67 (111, .goto (-69), 3) rfl) (by decide) ?_
                    refine MW.sub [2, 3, 4, 5, 1, 6, 7, 0] rfl ?_
                    exact ih42 _ (by omega) _ _ (by omega) (by omega) (by rw [sumZ_s (by omega)]; first | (rw [if_pos cm]; omega) | (rw [if_neg (by rw [cm]; decide)]; omega)) (by rw [fdN_s (by omega)] at g5; first | (rw [if_neg (by simp [cm]; omega), if_pos cm] at g5; exact g5) | (rw [if_neg (by simp [cm]), if_neg (by rw [cm]; decide)] at g5; exact g5)) rfl
          refine MW.sub [1, 2, 3, 4, 5, 6, 7, 0] rfl ?_
          exact L42 _ _ _ (by omega) (by omega) (by rw [sumZ_0]; omega) (by rw [Int.sub_zero]; rfl) rfl
    refine MW.sub [4, 5, 6, 3, 2, 1, 0] rfl ?_
    exact L28 _ _ _ _ _ (by omega) (by omega) (by rfl) (by omega) rfl hs2_1 hE.2 (fun k h0 h1 => by omega) rfl
  · skip
    have hrk : ¬ (0 ≤ rk ∧ rk < tl m d 0) := by (simp at c14; omega)
    refine x_iconst (v := 0) ⟨by decide, by decide⟩ (dtk dt_X12_find 11 (17, .iconst 0, 1) rfl) ?_
    exact rs_b (b := false) (dtk dt_X12_find 12 (18, .ireturn, 1) rfl) rfl (by simp; omega) hs2_1 (fun q => absurd q (by simp; omega))
set_option maxRecDepth 100000 in
set_option maxHeartbeats 4000000 in
theorem c_X12_rowOut {G : GG} {n : Nat} {K : KK} {M : MM} {o rk i : Int} (hm : MO K M) : MC G mi_X12_rowOut 6 0 0 [(1, 36), (0, o), (0, rk), (0, i)] n K M (SQ (some (0, if isOr M o && (decide (0 ≤ rk) && decide (rk < tl (M 38 o) (dM M o) 0)) && (decide (0 ≤ i) && decide (i < M 38 o)) then fdO (M 38 o) (dM M o) rk i else -1)) n K M (fun _ => True)) := by
  refine MC.intro (lc := [(0, (1, 36)), (1, (0, o)), (2, (0, rk)), (3, (0, i))]) (by decide) rfl (by simp [Nat.ble]) (Nat.le_of_ble_eq_true rfl) rfl (fun hMR => ?_)
  refine x_aload_n (dtk dt_X12_rowOut 0 (0, .aload_n 0, 1) rfl) rfl ?_
  refine x_iload_n (dtk dt_X12_rowOut 1 (1, .iload_n 1, 1) rfl) rfl ?_
  refine kc_X12_78 rfl (dtk dt_X12_rowOut 2 (2, .invokevirtual 78, 3) rfl) (c_X12_isOrder (G := G)  hm) rfl rfl (wk_36 hm.1) (fitR (by decide) (by decide)) (Nat.le_of_ble_eq_true rfl) (pqK ?_)
  refine x_if_eqB (tgt := 42) (dtk dt_X12_rowOut 3 (5, .ifCond .eq 37, 3) rfl) (by decide) (fun c5 => ?_) (fun c5 => ?_)
  · skip
    refine x_iconst (v := -1) ⟨by decide, by decide⟩ (dtk dt_X12_rowOut 24 (42, .iconst (-1), 1) rfl) ?_
    exact rs_i (dtk dt_X12_rowOut 25 (43, .ireturn, 1) rfl) rfl (by first | (rw [if_pos (by simp_all)]; done) | (rw [if_neg (by simp_all <;> omega)])) sc.rf trivial
  · skip
    have ho := isOr_of hm c5
    have hA : AT K M o (M 38 o) (dM M o) := ⟨hm, ho, rfl, rfl⟩
    have hsz := hA.ok.1
    refine x_aload_n (dtk dt_X12_rowOut 4 (8, .aload_n 0, 1) rfl) rfl ?_
    refine x_iload_n (dtk dt_X12_rowOut 5 (9, .iload_n 1, 1) rfl) rfl ?_
    refine x_iload_n (dtk dt_X12_rowOut 6 (10, .iload_n 2, 1) rfl) rfl ?_
    refine kc_X12_152 rfl (dtk dt_X12_rowOut 7 (11, .invokevirtual 152, 3) rfl) (c_X12_find (G := G)  hA) rfl rfl (wk_36 hA.wf) (fitR (by decide) (by decide)) (Nat.le_of_ble_eq_true rfl) (sqK (fun M11_1 hs11_1 hE11_1 => ?_))
    have hE := hE11_1
    refine x_if_eqB (tgt := 42) (dtk dt_X12_rowOut 8 (14, .ifCond .eq 28, 3) rfl) (by decide) (fun c14 => ?_) (fun c14 => ?_)
    · skip
      refine x_iconst (v := -1) ⟨by decide, by decide⟩ (dtk dt_X12_rowOut 24 (42, .iconst (-1), 1) rfl) ?_
      exact rs_i (dtk dt_X12_rowOut 25 (43, .ireturn, 1) rfl) rfl (by first | (rw [if_pos (by simp_all)]; done) | (rw [if_neg (by simp_all <;> omega)])) hs11_1 trivial
    · skip
      refine x_iload_n (dtk dt_X12_rowOut 9 (17, .iload_n 3, 1) rfl) rfl ?_
      refine x_iconst (v := 0) ⟨by decide, by decide⟩ (dtk dt_X12_rowOut 10 (18, .iconst 0, 1) rfl) ?_
      refine x_aload_n (dtk dt_X12_rowOut 11 (19, .aload_n 0, 1) rfl) rfl ?_
      refine fg_X12_13 rfl (dtk dt_X12_rowOut 12 (20, .getfield 13, 3) rfl) (wk_36 hA.wf) (wm_36_2 (hA.off hs11_1).wf) ?_
      refine x_iload_n (dtk dt_X12_rowOut 13 (23, .iload_n 1, 1) rfl) rfl ?_
      refine x_iald (dtk dt_X12_rowOut 14 (24, .iaload, 1) rfl) (wk_38 hA.wf) ⟨by omega, by omega⟩ ?_
      rw [(hA.off hs11_1).sz]
      refine x_iconst (v := 1) ⟨by decide, by decide⟩ (dtk dt_X12_rowOut 15 (25, .iconst 1, 1) rfl) ?_
      refine y_isub (dtk dt_X12_rowOut 16 (26, .isub, 1) rfl) ⟨by omega, by omega⟩ ?_
      refine kc_X12_74 rfl (dtk dt_X12_rowOut 17 (27, .invokestatic 74, 3) rfl) (c_X12_in (G := G)  ) rfl rfl (fitR (by decide) (by decide)) (Nat.le_of_ble_eq_true rfl) (pqK ?_)
      refine x_if_eqB (tgt := 42) (dtk dt_X12_rowOut 18 (30, .ifCond .eq 12, 3) rfl) (by decide) (fun c30 => ?_) (fun c30 => ?_)
      · skip
        have hi : ¬ (0 ≤ i ∧ i < M 38 o) := by (simp at c30; omega)
        refine x_iconst (v := -1) ⟨by decide, by decide⟩ (dtk dt_X12_rowOut 24 (42, .iconst (-1), 1) rfl) ?_
        exact rs_i (dtk dt_X12_rowOut 25 (43, .ireturn, 1) rfl) rfl (by first | (rw [if_pos (by simp_all)]; done) | (rw [if_neg (by simp_all <;> omega)])) hs11_1 trivial
      · skip
        have hi : 0 ≤ i ∧ i < M 38 o := by (simp at c30; omega)
        refine x_aload_n (dtk dt_X12_rowOut 19 (33, .aload_n 0, 1) rfl) rfl ?_
        refine fg_X12_53 rfl (dtk dt_X12_rowOut 20 (34, .getfield 53, 3) rfl) (wk_36 hA.wf) (wm_36_19 (hA.off hs11_1).wf) ?_
        refine x_iload_n (dtk dt_X12_rowOut 21 (37, .iload_n 3, 1) rfl) rfl ?_
        refine x_iald (dtk dt_X12_rowOut 22 (38, .iaload, 1) rfl) (wk_50 hA.wf) ⟨by omega, by omega⟩ ?_
        rw [hE c14 i hi.1 hi.2]
        refine x_goto (tgt := 43) (dtk dt_X12_rowOut 23 (39, .goto 4, 3) rfl) (by decide) ?_
        exact rs_i (dtk dt_X12_rowOut 25 (43, .ireturn, 1) rfl) rfl (by first | (rw [if_pos (by simp_all)]; done) | (rw [if_neg (by simp_all <;> omega)])) hs11_1 trivial
