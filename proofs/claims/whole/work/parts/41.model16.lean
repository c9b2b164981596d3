/-! ===== the model: chains, maps ===== -/
set_option maxRecDepth 100000 in
set_option maxHeartbeats 4000000 in
theorem c_X12_fitsChain {G : GG} {n : Nat} {K : KK} {M : MM} {o t c w : Int} {m : Int} {d : Int → Int} (hA : AT K M o m d) (ht : 0 ≤ t ∧ t < 10) (hx : ∀ i, 0 ≤ i → i < t → 0 ≤ M 51 i ∧ M 51 i < 10) : MC G mi_X12_fitsChain 4 0 0 [(1, 36), (0, o), (0, t), (0, c), (0, w)] n K M (PQ (some (0, B (chP d w (M 51) t c))) n K (M)) := by
  refine MC.intro (lc := [(0, (1, 36)), (1, (0, o)), (2, (0, t)), (3, (0, c)), (4, (0, w))]) (by decide) rfl (by simp [Nat.ble]) (Nat.le_of_ble_eq_true rfl) rfl (fun hMR => ?_)
  have ho := hA.2.1
  have hsz := hA.ok.1
  refine x_iconst (v := 0) ⟨by decide, by decide⟩ (dtk dt_X12_fitsChain 0 (0, .iconst 0, 1) rfl) ?_
  refine x_istore (dtk dt_X12_fitsChain 1 (1, .istore 5, 2) rfl) (by decide) ?_
  refine x_iconst (v := 0) ⟨by decide, by decide⟩ (dtk dt_X12_fitsChain 2 (3, .iconst 0, 1) rfl) ?_
  refine x_istore (dtk dt_X12_fitsChain 3 (4, .istore 6, 2) rfl) (by decide) ?_
  have L6 : ∀ (fu : Nat) (v5 : Int) (v6 : Int), (0 ≤ v6 ∧ v6 ≤ t) → (v5 = usd (M 51) v6) → (0 ≤ v5 ∧ v5 ≤ 10) → (allB v6 (fun a => !(decide (M 51 a = c) && apr d a t)) = true) → (t - v6).toNat = fu → MW G mi_X12_fitsChain (rmd 4 0 0) (MZ G (PQ (some (0, B (chP d w (M 51) t c))) n K (M)) 0 0) (0, 0) 6 [(0, (1, 36)), (1, (0, o)), (2, (0, t)), (3, (0, c)), (4, (0, w)), (5, (0, v5)), (6, (0, v6))] [] n K (M) := by
    intro fu
    induction fu using Nat.strongRecOn with
    | ind fu ih6 =>
      intro v5 v6 h1 h2 hb h3 hk6
      refine x_iload (dtk dt_X12_fitsChain 4 (6, .iload 6, 2) rfl) rfl ?_
      refine x_iload_n (dtk dt_X12_fitsChain 5 (8, .iload_n 2, 1) rfl) rfl ?_
      refine x_icmp_ge (tgt := 70) (dtk dt_X12_fitsChain 6 (9, .if_icmp .ge 61, 3) rfl) (by decide) (fun c9 => ?_) (fun c9 => ?_)
      · skip
        refine x_iload_n (dtk dt_X12_fitsChain 38 (70, .iload_n 3, 1) rfl) rfl ?_
        refine x_iload (dtk dt_X12_fitsChain 39 (71, .iload 5, 2) rfl) rfl ?_
        refine x_icmp_gt (tgt := 86) (dtk dt_X12_fitsChain 40 (73, .if_icmp .gt 13, 3) rfl) (by decide) (fun c73 => ?_) (fun c73 => ?_)
        · skip
          refine x_iconst (v := 0) ⟨by decide, by decide⟩ (dtk dt_X12_fitsChain 46 (86, .iconst 0, 1) rfl) ?_
          exact r_b (b := false) (dtk dt_X12_fitsChain 47 (87, .ireturn, 1) rfl) rfl (by unfold chP; rw [show v6 = t by omega] at h2 h3; rw [h3, ← h2]; simp <;> omega) rfl
        · skip
          refine x_iload_n (dtk dt_X12_fitsChain 41 (76, .iload_n 3, 1) rfl) rfl ?_
          refine x_iload (dtk dt_X12_fitsChain 42 (77, .iload 4, 2) rfl) rfl ?_
          refine x_icmp_ge (tgt := 86) (dtk dt_X12_fitsChain 43 (79, .if_icmp .ge 7, 3) rfl) (by decide) (fun c79 => ?_) (fun c79 => ?_)
          · skip
            refine x_iconst (v := 0) ⟨by decide, by decide⟩ (dtk dt_X12_fitsChain 46 (86, .iconst 0, 1) rfl) ?_
            exact r_b (b := false) (dtk dt_X12_fitsChain 47 (87, .ireturn, 1) rfl) rfl (by unfold chP; rw [show v6 = t by omega] at h2 h3; rw [h3, ← h2]; simp <;> omega) rfl
          · skip
            refine x_iconst (v := 1) ⟨by decide, by decide⟩ (dtk dt_X12_fitsChain 44 (82, .iconst 1, 1) rfl) ?_
            refine x_goto (tgt := 87) (dtk dt_X12_fitsChain 45 (83, .goto 4, 3) rfl) (by decide) ?_
            exact r_b (b := true) (dtk dt_X12_fitsChain 47 (87, .ireturn, 1) rfl) rfl (by unfold chP; rw [show v6 = t by omega] at h2 h3; rw [h3, ← h2]; simp <;> omega) rfl
      · skip
        have hx6 := hx v6 (by omega) (by omega)
        refine x_aload_n (dtk dt_X12_fitsChain 7 (12, .aload_n 0, 1) rfl) rfl ?_
        refine fg_X12_56 rfl (dtk dt_X12_fitsChain 8 (13, .getfield 56, 3) rfl) (wk_36 hA.wf) (wm_36_20 hA.wf) ?_
        refine x_iload (dtk dt_X12_fitsChain 9 (16, .iload 6, 2) rfl) rfl ?_
        refine x_iald (dtk dt_X12_fitsChain 10 (18, .iaload, 1) rfl) (wk_51 hA.wf) ⟨by omega, by omega⟩ ?_
        refine x_iload (dtk dt_X12_fitsChain 11 (19, .iload 5, 2) rfl) rfl ?_
        refine x_icmp_lt (tgt := 36) (dtk dt_X12_fitsChain 12 (21, .if_icmp .lt 15, 3) rfl) (by decide) (fun c21 => ?_) (fun c21 => ?_)
        · skip
          refine x_iload (dtk dt_X12_fitsChain 20 (36, .iload 5, 2) rfl) rfl ?_
          refine x_istore (dtk dt_X12_fitsChain 21 (38, .istore 5, 2) rfl) (by decide) ?_
          refine x_aload_n (dtk dt_X12_fitsChain 22 (40, .aload_n 0, 1) rfl) rfl ?_
          refine fg_X12_56 rfl (dtk dt_X12_fitsChain 23 (41, .getfield 56, 3) rfl) (wk_36 hA.wf) (wm_36_20 hA.wf) ?_
          refine x_iload (dtk dt_X12_fitsChain 24 (44, .iload 6, 2) rfl) rfl ?_
          refine x_iald (dtk dt_X12_fitsChain 25 (46, .iaload, 1) rfl) (wk_51 hA.wf) ⟨by omega, by omega⟩ ?_
          refine x_iload_n (dtk dt_X12_fitsChain 26 (47, .iload_n 3, 1) rfl) rfl ?_
          refine x_icmp_ne (tgt := 64) (dtk dt_X12_fitsChain 27 (48, .if_icmp .ne 16, 3) rfl) (by decide) (fun c48 => ?_) (fun c48 => ?_)
          · skip
            refine y_iinc (dtk dt_X12_fitsChain 36 (64, .iinc 6 1, 3) rfl) rfl (by decide) ⟨by omega, by omega⟩ ?_
            refine x_goto (tgt := 6) (dtk dt_X12_fitsChain 37 (67, .goto (-61), 3) rfl) (by decide) ?_
            refine MW.sub [2, 3, 4, 5, 6, 1, 0] rfl ?_
            exact ih6 _ (by omega) _ _ (by omega) (by unfold usd; rw [foldZ_s h1.1]; show _ = (if usd (M 51) v6 ≤ M 51 v6 then M 51 v6 + 1 else usd (M 51) v6); rw [← h2]; first | (rw [if_pos (by omega)]; done) | (rw [if_neg (by omega)]; done)) (by omega) (by clear ih6; rw [allB_s h1.1, h3]; simp_all) rfl
          · skip
            refine x_aload_n (dtk dt_X12_fitsChain 28 (51, .aload_n 0, 1) rfl) rfl ?_
            refine x_iload_n (dtk dt_X12_fitsChain 29 (52, .iload_n 1, 1) rfl) rfl ?_
            refine x_iload (dtk dt_X12_fitsChain 30 (53, .iload 6, 2) rfl) rfl ?_
            refine x_iload_n (dtk dt_X12_fitsChain 31 (55, .iload_n 2, 1) rfl) rfl ?_
            refine kc_X12_157 rfl (dtk dt_X12_fitsChain 32 (56, .invokevirtual 157, 3) rfl) (c_X12_isApart (G := G)  hA (by omega) (by omega)) rfl rfl (wk_36 hA.wf) (fitR (by decide) (by decide)) (Nat.le_of_ble_eq_true rfl) (pqK ?_)
            refine x_if_eqB (tgt := 64) (dtk dt_X12_fitsChain 33 (59, .ifCond .eq 5, 3) rfl) (by decide) (fun c59 => ?_) (fun c59 => ?_)
            · skip
              refine y_iinc (dtk dt_X12_fitsChain 36 (64, .iinc 6 1, 3) rfl) rfl (by decide) ⟨by omega, by omega⟩ ?_
              refine x_goto (tgt := 6) (dtk dt_X12_fitsChain 37 (67, .goto (-61), 3) rfl) (by decide) ?_
              refine MW.sub [2, 3, 4, 5, 6, 1, 0] rfl ?_
              exact ih6 _ (by omega) _ _ (by omega) (by unfold usd; rw [foldZ_s h1.1]; show _ = (if usd (M 51) v6 ≤ M 51 v6 then M 51 v6 + 1 else usd (M 51) v6); rw [← h2]; first | (rw [if_pos (by omega)]; done) | (rw [if_neg (by omega)]; done)) (by omega) (by clear ih6; rw [allB_s h1.1, h3]; simp_all) rfl
            · skip
              refine x_iconst (v := 0) ⟨by decide, by decide⟩ (dtk dt_X12_fitsChain 34 (62, .iconst 0, 1) rfl) ?_
              exact r_b (b := false) (dtk dt_X12_fitsChain 35 (63, .ireturn, 1) rfl) rfl (by symm; rw [Bool.eq_false_iff]; intro hq; unfold chP at hq; rw [Bool.and_eq_true, allB_iff] at hq; have hz := hq.1 v6 h1.1 (by omega); rw [show decide (M 51 v6 = c) = true from by simp; omega, c59] at hz; cases hz) rfl
        · skip
          refine x_aload_n (dtk dt_X12_fitsChain 13 (24, .aload_n 0, 1) rfl) rfl ?_
          refine fg_X12_56 rfl (dtk dt_X12_fitsChain 14 (25, .getfield 56, 3) rfl) (wk_36 hA.wf) (wm_36_20 hA.wf) ?_
          refine x_iload (dtk dt_X12_fitsChain 15 (28, .iload 6, 2) rfl) rfl ?_
          refine x_iald (dtk dt_X12_fitsChain 16 (30, .iaload, 1) rfl) (wk_51 hA.wf) ⟨by omega, by omega⟩ ?_
          refine x_iconst (v := 1) ⟨by decide, by decide⟩ (dtk dt_X12_fitsChain 17 (31, .iconst 1, 1) rfl) ?_
          refine y_iadd (dtk dt_X12_fitsChain 18 (32, .iadd, 1) rfl) ⟨by omega, by omega⟩ ?_
          refine x_goto (tgt := 38) (dtk dt_X12_fitsChain 19 (33, .goto 5, 3) rfl) (by decide) ?_
          refine x_istore (dtk dt_X12_fitsChain 21 (38, .istore 5, 2) rfl) (by decide) ?_
          refine x_aload_n (dtk dt_X12_fitsChain 22 (40, .aload_n 0, 1) rfl) rfl ?_
          refine fg_X12_56 rfl (dtk dt_X12_fitsChain 23 (41, .getfield 56, 3) rfl) (wk_36 hA.wf) (wm_36_20 hA.wf) ?_
          refine x_iload (dtk dt_X12_fitsChain 24 (44, .iload 6, 2) rfl) rfl ?_
          refine x_iald (dtk dt_X12_fitsChain 25 (46, .iaload, 1) rfl) (wk_51 hA.wf) ⟨by omega, by omega⟩ ?_
          refine x_iload_n (dtk dt_X12_fitsChain 26 (47, .iload_n 3, 1) rfl) rfl ?_
          refine x_icmp_ne (tgt := 64) (dtk dt_X12_fitsChain 27 (48, .if_icmp .ne 16, 3) rfl) (by decide) (fun c48 => ?_) (fun c48 => ?_)
          · skip
            refine y_iinc (dtk dt_X12_fitsChain 36 (64, .iinc 6 1, 3) rfl) rfl (by decide) ⟨by omega, by omega⟩ ?_
            refine x_goto (tgt := 6) (dtk dt_X12_fitsChain 37 (67, .goto (-61), 3) rfl) (by decide) ?_
            refine MW.sub [2, 3, 4, 5, 6, 1, 0] rfl ?_
            exact ih6 _ (by omega) _ _ (by omega) (by unfold usd; rw [foldZ_s h1.1]; show _ = (if usd (M 51) v6 ≤ M 51 v6 then M 51 v6 + 1 else usd (M 51) v6); rw [← h2]; first | (rw [if_pos (by omega)]; done) | (rw [if_neg (by omega)]; done)) (by omega) (by clear ih6; rw [allB_s h1.1, h3]; simp_all) rfl
          · skip
            refine x_aload_n (dtk dt_X12_fitsChain 28 (51, .aload_n 0, 1) rfl) rfl ?_
            refine x_iload_n (dtk dt_X12_fitsChain 29 (52, .iload_n 1, 1) rfl) rfl ?_
            refine x_iload (dtk dt_X12_fitsChain 30 (53, .iload 6, 2) rfl) rfl ?_
            refine x_iload_n (dtk dt_X12_fitsChain 31 (55, .iload_n 2, 1) rfl) rfl ?_
            refine kc_X12_157 rfl (dtk dt_X12_fitsChain 32 (56, .invokevirtual 157, 3) rfl) (c_X12_isApart (G := G)  hA (by omega) (by omega)) rfl rfl (wk_36 hA.wf) (fitR (by decide) (by decide)) (Nat.le_of_ble_eq_true rfl) (pqK ?_)
            refine x_if_eqB (tgt := 64) (dtk dt_X12_fitsChain 33 (59, .ifCond .eq 5, 3) rfl) (by decide) (fun c59 => ?_) (fun c59 => ?_)
            · skip
              refine y_iinc (dtk dt_X12_fitsChain 36 (64, .iinc 6 1, 3) rfl) rfl (by decide) ⟨by omega, by omega⟩ ?_
              refine x_goto (tgt := 6) (dtk dt_X12_fitsChain 37 (67, .goto (-61), 3) rfl) (by decide) ?_
              refine MW.sub [2, 3, 4, 5, 6, 1, 0] rfl ?_
              exact ih6 _ (by omega) _ _ (by omega) (by unfold usd; rw [foldZ_s h1.1]; show _ = (if usd (M 51) v6 ≤ M 51 v6 then M 51 v6 + 1 else usd (M 51) v6); rw [← h2]; first | (rw [if_pos (by omega)]; done) | (rw [if_neg (by omega)]; done)) (by omega) (by clear ih6; rw [allB_s h1.1, h3]; simp_all) rfl
            · skip
              refine x_iconst (v := 0) ⟨by decide, by decide⟩ (dtk dt_X12_fitsChain 34 (62, .iconst 0, 1) rfl) ?_
              exact r_b (b := false) (dtk dt_X12_fitsChain 35 (63, .ireturn, 1) rfl) rfl (by symm; rw [Bool.eq_false_iff]; intro hq; unfold chP at hq; rw [Bool.and_eq_true, allB_iff] at hq; have hz := hq.1 v6 h1.1 (by omega); rw [show decide (M 51 v6 = c) = true from by simp; omega, c59] at hz; cases hz) rfl
  refine MW.sub [2, 3, 4, 5, 6, 1, 0] rfl ?_
  exact L6 _ _ _ (by omega) rfl (by omega) rfl rfl
set_option maxRecDepth 100000 in
set_option maxHeartbeats 4000000 in
theorem c_X12_findChains {G : GG} {n : Nat} {K : KK} {M : MM} {o : Int} {m : Int} {d : Int → Int} (hA : AT K M o m d) (hD : chR m d ≠ none) : MC G mi_X12_findChains 5 0 0 [(1, 36), (0, o)] n K M (SQ none n K M (fun M' => ∀ i, 0 ≤ i → i < m → M' 51 i = oat (chR m d) i)) := by
  refine MC.intro (lc := [(0, (1, 36)), (1, (0, o))]) (by decide) rfl (by simp [Nat.ble]) (Nat.le_of_ble_eq_true rfl) rfl (fun hMR => ?_)
  have ho := hA.2.1
  have hsz := hA.ok.1
  have hp := p2_b hsz
  refine x_aload_n (dtk dt_X12_findChains 0 (0, .aload_n 0, 1) rfl) rfl ?_
  refine x_iload_n (dtk dt_X12_findChains 1 (1, .iload_n 1, 1) rfl) rfl ?_
  refine kc_X12_176 rfl (dtk dt_X12_findChains 2 (2, .invokevirtual 176, 3) rfl) (c_X12_widest0 (G := G)  hA) rfl rfl (wk_36 hA.wf) (fitR (by decide) (by decide)) (Nat.le_of_ble_eq_true rfl) (pqK ?_)
  refine kc_X12_133 rfl (dtk dt_X12_findChains 3 (5, .invokestatic 133, 3) rfl) (c_X12_bits (G := G)  (nn10 (wide_b hsz (p2 m) (Int.le_refl _)))) rfl rfl (fitR (by decide) (by decide)) (Nat.le_of_ble_eq_true rfl) (pqK ?_)
  change MW G _ _ _ _ _ _ ((0, cnt (wide m d)) :: _) _ _ _
  have hW := cnt_b (wide m d)
  refine x_istore_n (dtk dt_X12_findChains 4 (8, .istore_n 2, 1) rfl) (by decide) ?_
  refine x_iconst (v := 0) ⟨by decide, by decide⟩ (dtk dt_X12_findChains 5 (9, .iconst 0, 1) rfl) ?_
  refine x_istore_n (dtk dt_X12_findChains 6 (10, .istore_n 3, 1) rfl) (by decide) ?_
  refine x_aload_n (dtk dt_X12_findChains 7 (11, .aload_n 0, 1) rfl) rfl ?_
  refine fg_X12_56 rfl (dtk dt_X12_findChains 8 (12, .getfield 56, 3) rfl) (wk_36 hA.wf) (wm_36_20 hA.wf) ?_
  refine x_iconst (v := 0) ⟨by decide, by decide⟩ (dtk dt_X12_findChains 9 (15, .iconst 0, 1) rfl) ?_
  refine x_iconst (v := -1) ⟨by decide, by decide⟩ (dtk dt_X12_findChains 10 (16, .iconst (-1), 1) rfl) ?_
  refine x_iast (dtk dt_X12_findChains 11 (17, .iastore, 1) rfl) (wk_51 hA.wf) ⟨by omega, by omega⟩ ?_
  have L18 : ∀ (fu : Nat) (v3 : Int) (M1 : MM), (0 ≤ v3 ∧ v3 ≤ m) → (sc M M1) → (∀ i, 0 ≤ i → i < v3 → 0 ≤ M1 51 i ∧ M1 51 i < cnt (wide m d)) → (-1 ≤ M1 51 v3 ∧ M1 51 v3 < cnt (wide m d)) → (bk (cnt (wide m d)) (m) (chP d (cnt (wide m d))) (M1 51) (v3 + 1).toNat = chR m d) → mu (M1 51) (v3 + 1).toNat = fu → MW G mi_X12_findChains (rmd 5 0 0) (MZ G (SQ none n K M (fun M' => ∀ i, 0 ≤ i → i < m → M' 51 i = oat (chR m d) i)) 0 0) (0, 0) 18 [(0, (1, 36)), (1, (0, o)), (2, (0, cnt (wide m d))), (3, (0, v3))] [] n K (M1) := by
    intro fu
    induction fu using Nat.strongRecOn with
    | ind fu ih18 =>
      intro v3 M1 h1 hs1 hx hy hb hk18
      refine x_iload_n (dtk dt_X12_findChains 12 (18, .iload_n 3, 1) rfl) rfl ?_
      refine x_aload_n (dtk dt_X12_findChains 13 (19, .aload_n 0, 1) rfl) rfl ?_
      refine fg_X12_13 rfl (dtk dt_X12_findChains 14 (20, .getfield 13, 3) rfl) (wk_36 hA.wf) (wm_36_2 (hA.off hs1).wf) ?_
      refine x_iload_n (dtk dt_X12_findChains 15 (23, .iload_n 1, 1) rfl) rfl ?_
      refine x_iald (dtk dt_X12_findChains 16 (24, .iaload, 1) rfl) (wk_38 hA.wf) ⟨by omega, by omega⟩ ?_
      rw [(hA.off hs1).sz]
      refine x_icmp_ge (tgt := 106) (dtk dt_X12_findChains 17 (25, .if_icmp .ge 81, 3) rfl) (by decide) (fun c25 => ?_) (fun c25 => ?_)
      · skip
        exact rs_v (dtk dt_X12_findChains 66 (106, .return_, 1) rfl) rfl hs1 (fun i h0 hi => by rw [show v3 = m by omega, bk_n (by omega)] at hb; rw [← hb]; show _ = nrm m (M1 51) i; unfold nrm; rw [if_pos ⟨h0, hi⟩])
      · skip
        refine x_aload_n (dtk dt_X12_findChains 18 (28, .aload_n 0, 1) rfl) rfl ?_
        refine fg_X12_56 rfl (dtk dt_X12_findChains 19 (29, .getfield 56, 3) rfl) (wk_36 hA.wf) (wm_36_20 (hA.off hs1).wf) ?_
        refine x_iload_n (dtk dt_X12_findChains 20 (32, .iload_n 3, 1) rfl) rfl ?_
        refine x_dup2 rfl rfl (dtk dt_X12_findChains 21 (33, .dup2, 1) rfl) ?_
        refine x_iald (dtk dt_X12_findChains 22 (34, .iaload, 1) rfl) (wk_51 hA.wf) ⟨by omega, by omega⟩ ?_
        refine x_iconst (v := 1) ⟨by decide, by decide⟩ (dtk dt_X12_findChains 23 (35, .iconst 1, 1) rfl) ?_
        refine y_iadd (dtk dt_X12_findChains 24 (36, .iadd, 1) rfl) ⟨by omega, by omega⟩ ?_
        refine x_iast (dtk dt_X12_findChains 25 (37, .iastore, 1) rfl) (wk_51 hA.wf) ⟨by omega, by omega⟩ ?_
        have L38 : ∀ (fu : Nat) (M2 : MM), (sc M M2) → (∀ i, 0 ≤ i → i < v3 → M2 51 i = M1 51 i) → (M1 51 v3 < M2 51 v3 ∧ M2 51 v3 ≤ cnt (wide m d)) → (now (cnt (wide m d)) (m) (chP d (cnt (wide m d))) (M2 51) v3 = chR m d) → (cnt (wide m d) - M2 51 v3).toNat = fu → MW G mi_X12_findChains (rmd 5 0 0) (MZ G (SQ none n K M (fun M' => ∀ i, 0 ≤ i → i < m → M' 51 i = oat (chR m d) i)) 0 0) (0, 0) 38 [(0, (1, 36)), (1, (0, o)), (2, (0, cnt (wide m d))), (3, (0, v3))] [] n K (M2) := by
          intro fu
          induction fu using Nat.strongRecOn with
          | ind fu ih38 =>
            intro M2 hs2 ha hc hn hk38
            refine x_aload_n (dtk dt_X12_findChains 26 (38, .aload_n 0, 1) rfl) rfl ?_
            have J77_12 : (cnt (wide m d) ≤ M2 51 v3 ∨ (chP d (cnt (wide m d))) (M2 51) v3 (M2 51 v3) = true) → MW G mi_X12_findChains (rmd 5 0 0) (MZ G (SQ none n K M (fun M' => ∀ i, 0 ≤ i → i < m → M' 51 i = oat (chR m d) i)) 0 0) (0, 0) 77 [(0, (1, 36)), (1, (0, o)), (2, (0, cnt (wide m d))), (3, (0, v3))] [] n K (M2) := by
              intro  hJ
              have hx2 : ∀ i, 0 ≤ i → i < v3 → 0 ≤ M2 51 i ∧ M2 51 i < cnt (wide m d) := fun i h0 h1 => by rw [ha i h0 h1]; exact hx i h0 h1
              refine x_aload_n (dtk dt_X12_findChains 51 (77, .aload_n 0, 1) rfl) rfl ?_
              refine fg_X12_56 rfl (dtk dt_X12_findChains 52 (78, .getfield 56, 3) rfl) (wk_36 hA.wf) (wm_36_20 (hA.off hs2).wf) ?_
              refine x_iload_n (dtk dt_X12_findChains 53 (81, .iload_n 3, 1) rfl) rfl ?_
              refine x_iald (dtk dt_X12_findChains 54 (82, .iaload, 1) rfl) (wk_51 hA.wf) ⟨by omega, by omega⟩ ?_
              refine x_iload_n (dtk dt_X12_findChains 55 (83, .iload_n 2, 1) rfl) rfl ?_
              refine x_icmp_ge (tgt := 100) (dtk dt_X12_findChains 56 (84, .if_icmp .ge 16, 3) rfl) (by decide) (fun c84 => ?_) (fun c84 => ?_)
              · skip
                have hge : 1 ≤ v3 := by (by_cases hq : v3 = 0; (exfalso; rw [now_e ⟨by omega, by omega⟩ (by omega), hq] at hn; exact hD hn.symm); omega)
                refine y_iinc (dtk dt_X12_findChains 64 (100, .iinc 3 (-1), 3) rfl) rfl (by decide) ⟨by omega, by omega⟩ ?_
                refine x_goto (tgt := 18) (dtk dt_X12_findChains 65 (103, .goto (-85), 3) rfl) (by decide) ?_
                refine MW.sub [1, 2, 3, 0] rfl ?_
                exact ih18 _ (by rw [← hk18]; first | (rw [st2_up]; exact mu_next ⟨by omega, by omega⟩ (fun i h0 h1 => by rw [show up (M2 51) (v3 + 1) (-1) i = M2 51 i from if_neg (by omega)]; exact ha i h0 h1) (by rw [show up (M2 51) (v3 + 1) (-1) v3 = M2 51 v3 from if_neg (by omega)]; omega) (if_pos rfl)) | (rw [show v3 + -1 + 1 = v3 by omega]; exact mu_back (by omega) (fun i h0 h1 => ha i h0 h1) (by omega))) _ _ (by omega) hs2 (fun i h0 hi => by first | (rw [st2_up, show up (M2 51) (v3 + 1) (-1) i = M2 51 i from if_neg (by omega)]; by_cases hq : i = v3; (rw [hq]; omega); exact hx2 i h0 (by omega)) | exact hx2 i h0 (by omega)) (by first | (rw [st2_self]; omega) | (have hz := hx2 (v3 + -1) (by omega) (by omega); omega)) (by first | (rw [st2_up, now_ok (chP_loc d (cnt (wide m d))) ⟨by omega, by omega⟩ (by omega) (by omega) hf]; exact hn) | (rw [now_e ⟨by omega, by omega⟩ (by omega)] at hn; rw [show v3 + -1 + 1 = v3 by omega]; exact hn)) rfl
              · skip
                have hf : (chP d (cnt (wide m d))) (M2 51) v3 (M2 51 v3) = true := by (rcases hJ with hJ | hJ; omega; exact hJ)
                refine y_iinc (dtk dt_X12_findChains 57 (87, .iinc 3 1, 3) rfl) rfl (by decide) ⟨by omega, by omega⟩ ?_
                refine x_aload_n (dtk dt_X12_findChains 58 (90, .aload_n 0, 1) rfl) rfl ?_
                refine fg_X12_56 rfl (dtk dt_X12_findChains 59 (91, .getfield 56, 3) rfl) (wk_36 hA.wf) (wm_36_20 (hA.off hs2).wf) ?_
                refine x_iload_n (dtk dt_X12_findChains 60 (94, .iload_n 3, 1) rfl) rfl ?_
                refine x_iconst (v := -1) ⟨by decide, by decide⟩ (dtk dt_X12_findChains 61 (95, .iconst (-1), 1) rfl) ?_
                refine x_iast (dtk dt_X12_findChains 62 (96, .iastore, 1) rfl) (wk_51 hA.wf) ⟨by omega, by omega⟩ ?_
                refine x_goto (tgt := 18) (dtk dt_X12_findChains 63 (97, .goto (-79), 3) rfl) (by decide) ?_
                refine MW.sub [1, 2, 3, 0] rfl ?_
                exact ih18 _ (by rw [← hk18]; first | (rw [st2_up]; exact mu_next ⟨by omega, by omega⟩ (fun i h0 h1 => by rw [show up (M2 51) (v3 + 1) (-1) i = M2 51 i from if_neg (by omega)]; exact ha i h0 h1) (by rw [show up (M2 51) (v3 + 1) (-1) v3 = M2 51 v3 from if_neg (by omega)]; omega) (if_pos rfl)) | (rw [show v3 + -1 + 1 = v3 by omega]; exact mu_back (by omega) (fun i h0 h1 => ha i h0 h1) (by omega))) _ _ (by omega) (sc.st 51 rfl hs2) (fun i h0 hi => by first | (rw [st2_up, show up (M2 51) (v3 + 1) (-1) i = M2 51 i from if_neg (by omega)]; by_cases hq : i = v3; (rw [hq]; omega); exact hx2 i h0 (by omega)) | exact hx2 i h0 (by omega)) (by first | (rw [st2_self]; omega) | (have hz := hx2 (v3 + -1) (by omega) (by omega); omega)) (by first | (rw [st2_up, now_ok (chP_loc d (cnt (wide m d))) ⟨by omega, by omega⟩ (by omega) (by omega) hf]; exact hn) | (rw [now_e ⟨by omega, by omega⟩ (by omega)] at hn; rw [show v3 + -1 + 1 = v3 by omega]; exact hn)) rfl
            refine fg_X12_56 rfl (dtk dt_X12_findChains 27 (39, .getfield 56, 3) rfl) (wk_36 hA.wf) (wm_36_20 (hA.off hs2).wf) ?_
            refine x_iload_n (dtk dt_X12_findChains 28 (42, .iload_n 3, 1) rfl) rfl ?_
            refine x_iald (dtk dt_X12_findChains 29 (43, .iaload, 1) rfl) (wk_51 hA.wf) ⟨by omega, by omega⟩ ?_
            refine x_iload_n (dtk dt_X12_findChains 30 (44, .iload_n 2, 1) rfl) rfl ?_
            refine x_icmp_ge (tgt := 77) (dtk dt_X12_findChains 31 (45, .if_icmp .ge 32, 3) rfl) (by decide) (fun c45 => ?_) (fun c45 => ?_)
            · skip
              refine MW.sub [0, 1, 2, 3] rfl ?_
              exact J77_12  (by first | exact Or.inr c61 | (exact Or.inl (by omega)))
            · skip
              refine x_aload_n (dtk dt_X12_findChains 32 (48, .aload_n 0, 1) rfl) rfl ?_
              refine x_iload_n (dtk dt_X12_findChains 33 (49, .iload_n 1, 1) rfl) rfl ?_
              refine x_iload_n (dtk dt_X12_findChains 34 (50, .iload_n 3, 1) rfl) rfl ?_
              refine x_aload_n (dtk dt_X12_findChains 35 (51, .aload_n 0, 1) rfl) rfl ?_
              refine fg_X12_56 rfl (dtk dt_X12_findChains 36 (52, .getfield 56, 3) rfl) (wk_36 hA.wf) (wm_36_20 (hA.off hs2).wf) ?_
              refine x_iload_n (dtk dt_X12_findChains 37 (55, .iload_n 3, 1) rfl) rfl ?_
              refine x_iald (dtk dt_X12_findChains 38 (56, .iaload, 1) rfl) (wk_51 hA.wf) ⟨by omega, by omega⟩ ?_
              refine x_iload_n (dtk dt_X12_findChains 39 (57, .iload_n 2, 1) rfl) rfl ?_
              refine kc_X12_182 rfl (dtk dt_X12_findChains 40 (58, .invokevirtual 182, 3) rfl) (c_X12_fitsChain (G := G)  (hA.off hs2) (by omega) (fun i h0 h1 => by have hz := hx i h0 h1; rw [ha i h0 h1]; omega)) rfl rfl (wk_36 hA.wf) (fitR (by decide) (by decide)) (Nat.le_of_ble_eq_true rfl) (pqK ?_)
              refine x_if_neB (tgt := 77) (dtk dt_X12_findChains 41 (61, .ifCond .ne 16, 3) rfl) (by decide) (fun c61 => ?_) (fun c61 => ?_)
              · skip
                refine MW.sub [0, 1, 2, 3] rfl ?_
                exact J77_12  (by first | exact Or.inr c61 | (exact Or.inl (by omega)))
              · skip
                refine x_aload_n (dtk dt_X12_findChains 42 (64, .aload_n 0, 1) rfl) rfl ?_
                refine fg_X12_56 rfl (dtk dt_X12_findChains 43 (65, .getfield 56, 3) rfl) (wk_36 hA.wf) (wm_36_20 (hA.off hs2).wf) ?_
                refine x_iload_n (dtk dt_X12_findChains 44 (68, .iload_n 3, 1) rfl) rfl ?_
                refine x_dup2 rfl rfl (dtk dt_X12_findChains 45 (69, .dup2, 1) rfl) ?_
                refine x_iald (dtk dt_X12_findChains 46 (70, .iaload, 1) rfl) (wk_51 hA.wf) ⟨by omega, by omega⟩ ?_
                refine x_iconst (v := 1) ⟨by decide, by decide⟩ (dtk dt_X12_findChains 47 (71, .iconst 1, 1) rfl) ?_
                refine y_iadd (dtk dt_X12_findChains 48 (72, .iadd, 1) rfl) ⟨by omega, by omega⟩ ?_
                refine x_iast (dtk dt_X12_findChains 49 (73, .iastore, 1) rfl) (wk_51 hA.wf) ⟨by omega, by omega⟩ ?_
                refine x_goto (tgt := 38) (dtk dt_X12_findChains 50 (74, .goto (-36), 3) rfl) (by decide) ?_
                refine MW.sub [0, 1, 2, 3] rfl ?_
                exact ih38 _ (by rw [st2_self]; omega) _ (sc.st 51 rfl hs2) (fun i h0 h1 => by rw [st2_up]; exact (if_neg (by omega)).trans (ha i h0 h1)) (by rw [st2_self]; omega) (by rw [st2_up, now_no (chP_loc d (cnt (wide m d))) ⟨by omega, by omega⟩ (by omega) c61]; exact hn) rfl
        refine MW.sub [0, 1, 2, 3] rfl ?_
        exact L38 _ _ (sc.st 51 rfl hs1) (fun i h0 h1 => by rw [st2_up]; exact if_neg (by omega)) (by rw [st2_self]; omega) (by rw [st2_up, bk_in (chP_loc d (cnt (wide m d))) ⟨by omega, by omega⟩]; exact hb) rfl
  refine MW.sub [2, 3, 1, 0] rfl ?_
  exact L18 _ _ _ (by omega) (sc.st 51 rfl sc.rf) (fun i h0 h1 => by omega) (by rw [st2_self]; omega) (by exact bk_0 (by omega) (chP_loc d (cnt (wide m d))) (by rw [st2_self])) rfl
set_option maxRecDepth 100000 in
set_option maxHeartbeats 4000000 in
theorem c_X12_of {G : GG} {n : Nat} {K : KK} {M : MM} {o t w : Int} (hm : MO K M) (hD : isTh M o t = true → chR (M 38 o) (dM M o) ≠ none) : MC G mi_X12_of 6 0 0 [(1, 36), (0, o), (0, t), (0, w)] n K M (SQ (some (0, if isTh M o t && (decide (0 ≤ w) && decide (w ≤ 1)) then (if w = 1 then lay (M 38 o) (dM M o) t else oat (chR (M 38 o) (dM M o)) t) else -1)) n K M (fun _ => True)) := by
  refine MC.intro (lc := [(0, (1, 36)), (1, (0, o)), (2, (0, t)), (3, (0, w))]) (by decide) rfl (by simp [Nat.ble]) (Nat.le_of_ble_eq_true rfl) rfl (fun hMR => ?_)
  refine x_aload_n (dtk dt_X12_of 0 (0, .aload_n 0, 1) rfl) rfl ?_
  refine x_iload_n (dtk dt_X12_of 1 (1, .iload_n 1, 1) rfl) rfl ?_
  refine x_iload_n (dtk dt_X12_of 2 (2, .iload_n 2, 1) rfl) rfl ?_
  refine kc_X12_110 rfl (dtk dt_X12_of 3 (3, .invokevirtual 110, 3) rfl) (c_X12_isThing (G := G)  hm) rfl rfl (wk_36 hm.1) (fitR (by decide) (by decide)) (Nat.le_of_ble_eq_true rfl) (pqK ?_)
  refine x_if_eqB (tgt := 18) (dtk dt_X12_of 4 (6, .ifCond .eq 12, 3) rfl) (by decide) (fun c6 => ?_) (fun c6 => ?_)
  · skip
    refine x_iconst (v := -1) ⟨by decide, by decide⟩ (dtk dt_X12_of 10 (18, .iconst (-1), 1) rfl) ?_
    exact rs_i (dtk dt_X12_of 11 (19, .ireturn, 1) rfl) rfl (by first | (rw [c6]; rfl) | (rw [c15, Bool.and_false]; rfl)) sc.rf trivial
  · skip
    refine x_iload_n (dtk dt_X12_of 5 (9, .iload_n 3, 1) rfl) rfl ?_
    refine x_iconst (v := 0) ⟨by decide, by decide⟩ (dtk dt_X12_of 6 (10, .iconst 0, 1) rfl) ?_
    refine x_iconst (v := 1) ⟨by decide, by decide⟩ (dtk dt_X12_of 7 (11, .iconst 1, 1) rfl) ?_
    refine kc_X12_74 rfl (dtk dt_X12_of 8 (12, .invokestatic 74, 3) rfl) (c_X12_in (G := G)  ) rfl rfl (fitR (by decide) (by decide)) (Nat.le_of_ble_eq_true rfl) (pqK ?_)
    refine x_if_neB (tgt := 20) (dtk dt_X12_of 9 (15, .ifCond .ne 5, 3) rfl) (by decide) (fun c15 => ?_) (fun c15 => ?_)
    · skip
      have ht := isTh_of hm c6
      have hA : AT K M o (M 38 o) (dM M o) := ⟨hm, ht.1, rfl, rfl⟩
      have hw : 0 ≤ w ∧ w ≤ 1 := by (simp at c15; omega)
      refine x_iload_n (dtk dt_X12_of 12 (20, .iload_n 3, 1) rfl) rfl ?_
      refine x_iconst (v := 1) ⟨by decide, by decide⟩ (dtk dt_X12_of 13 (21, .iconst 1, 1) rfl) ?_
      refine x_icmp_ne (tgt := 32) (dtk dt_X12_of 14 (22, .if_icmp .ne 10, 3) rfl) (by decide) (fun c22 => ?_) (fun c22 => ?_)
      · skip
        refine x_aload_n (dtk dt_X12_of 20 (32, .aload_n 0, 1) rfl) rfl ?_
        refine x_iload_n (dtk dt_X12_of 21 (33, .iload_n 1, 1) rfl) rfl ?_
        refine kc_X12_186 rfl (dtk dt_X12_of 22 (34, .invokevirtual 186, 3) rfl) (c_X12_findChains (G := G)  hA (hD c6)) rfl rfl (wk_36 hA.wf) (fitR (by decide) (by decide)) (Nat.le_of_ble_eq_true rfl) (sqK (fun M34_1 hs34_1 hE34_1 => ?_))
        have hE := hE34_1
        refine x_aload_n (dtk dt_X12_of 23 (37, .aload_n 0, 1) rfl) rfl ?_
        refine fg_X12_56 rfl (dtk dt_X12_of 24 (38, .getfield 56, 3) rfl) (wk_36 hA.wf) (wm_36_20 (hA.off hs34_1).wf) ?_
        refine x_iload_n (dtk dt_X12_of 25 (41, .iload_n 2, 1) rfl) rfl ?_
        refine x_iald (dtk dt_X12_of 26 (42, .iaload, 1) rfl) (wk_51 hA.wf) ⟨by omega, by omega⟩ ?_
        rw [hE t (by omega) (by omega)]
        exact rs_i (dtk dt_X12_of 27 (43, .ireturn, 1) rfl) rfl (by rw [if_pos (by rw [c6, c15]; rfl), if_neg (by omega)]) hs34_1 trivial
      · skip
        refine x_aload_n (dtk dt_X12_of 15 (25, .aload_n 0, 1) rfl) rfl ?_
        refine x_iload_n (dtk dt_X12_of 16 (26, .iload_n 1, 1) rfl) rfl ?_
        refine x_iload_n (dtk dt_X12_of 17 (27, .iload_n 2, 1) rfl) rfl ?_
        refine kc_X12_179 rfl (dtk dt_X12_of 18 (28, .invokevirtual 179, 3) rfl) (c_X12_layer (G := G)  hA (by omega)) rfl rfl (wk_36 hA.wf) (fitR (by decide) (by decide)) (Nat.le_of_ble_eq_true rfl) (pqK ?_)
        exact rs_i (dtk dt_X12_of 19 (31, .ireturn, 1) rfl) rfl (by rw [if_pos (by rw [c6, c15]; rfl), if_pos (by omega)]) sc.rf trivial
    · skip
      refine x_iconst (v := -1) ⟨by decide, by decide⟩ (dtk dt_X12_of 10 (18, .iconst (-1), 1) rfl) ?_
      exact rs_i (dtk dt_X12_of 11 (19, .ireturn, 1) rfl) rfl (by first | (rw [c6]; rfl) | (rw [c15, Bool.and_false]; rfl)) sc.rf trivial
set_option maxRecDepth 100000 in
set_option maxHeartbeats 4000000 in
theorem c_X12_fitsMap {G : GG} {n : Nat} {K : KK} {M : MM} {o p t c : Int} {m : Int} {d e : Int → Int} (hA : AT K M o m d) (hB : AT K M p m e) (ht : 0 ≤ t ∧ t < 10) (hc : 0 ≤ c ∧ c < 10) (hx : ∀ i, 0 ≤ i → i < t → 0 ≤ M 51 i ∧ M 51 i < 10) : MC G mi_X12_fitsMap 4 0 0 [(1, 36), (0, o), (0, p), (0, t), (0, c)] n K M (PQ (some (0, B (mpP m d e (M 51) t c))) n K (M)) := by
  refine MC.intro (lc := [(0, (1, 36)), (1, (0, o)), (2, (0, p)), (3, (0, t)), (4, (0, c))]) (by decide) rfl (by simp [Nat.ble]) (Nat.le_of_ble_eq_true rfl) rfl (fun hMR => ?_)
  have ho := hA.2.1
  have hsz := hA.ok.1
  refine x_aload_n (dtk dt_X12_fitsMap 0 (0, .aload_n 0, 1) rfl) rfl ?_
  refine x_iload_n (dtk dt_X12_fitsMap 1 (1, .iload_n 1, 1) rfl) rfl ?_
  refine x_iload_n (dtk dt_X12_fitsMap 2 (2, .iload_n 3, 1) rfl) rfl ?_
  refine kc_X12_219 rfl (dtk dt_X12_fitsMap 3 (3, .invokevirtual 219, 3) rfl) (c_X12_levelOf (G := G)  hA (by omega)) rfl rfl (wk_36 hA.wf) (fitR (by decide) (by decide)) (Nat.le_of_ble_eq_true rfl) (pqK ?_)
  refine x_aload_n (dtk dt_X12_fitsMap 4 (6, .aload_n 0, 1) rfl) rfl ?_
  refine x_iload_n (dtk dt_X12_fitsMap 5 (7, .iload_n 2, 1) rfl) rfl ?_
  refine x_iload (dtk dt_X12_fitsMap 6 (8, .iload 4, 2) rfl) rfl ?_
  refine kc_X12_219 rfl (dtk dt_X12_fitsMap 7 (10, .invokevirtual 219, 3) rfl) (c_X12_levelOf (G := G)  hB (by omega)) rfl rfl (wk_36 hA.wf) (fitR (by decide) (by decide)) (Nat.le_of_ble_eq_true rfl) (pqK ?_)
  refine x_icmp_eq (tgt := 18) (dtk dt_X12_fitsMap 8 (13, .if_icmp .eq 5, 3) rfl) (by decide) (fun c13 => ?_) (fun c13 => ?_)
  · skip
    refine x_iconst (v := 0) ⟨by decide, by decide⟩ (dtk dt_X12_fitsMap 11 (18, .iconst 0, 1) rfl) ?_
    refine x_istore (dtk dt_X12_fitsMap 12 (19, .istore 5, 2) rfl) (by decide) ?_
    have L21 : ∀ (fu : Nat) (v5 : Int), (0 ≤ v5 ∧ v5 ≤ t) → (allB v5 (fun a => !decide (M 51 a = c) && ((rel d a t == rel e (M 51 a) c) && (rel d t a == rel e c (M 51 a)))) = true) → (t - v5).toNat = fu → MW G mi_X12_fitsMap (rmd 4 0 0) (MZ G (PQ (some (0, B (mpP m d e (M 51) t c))) n K (M)) 0 0) (0, 0) 21 [(0, (1, 36)), (1, (0, o)), (2, (0, p)), (3, (0, t)), (4, (0, c)), (5, (0, v5))] [] n K (M) := by
      intro fu
      induction fu using Nat.strongRecOn with
      | ind fu ih21 =>
        intro v5 h1 h3 hk21
        refine x_iload (dtk dt_X12_fitsMap 13 (21, .iload 5, 2) rfl) rfl ?_
        refine x_iload_n (dtk dt_X12_fitsMap 14 (23, .iload_n 3, 1) rfl) rfl ?_
        refine x_icmp_ge (tgt := 109) (dtk dt_X12_fitsMap 15 (24, .if_icmp .ge 85, 3) rfl) (by decide) (fun c24 => ?_) (fun c24 => ?_)
        · skip
          refine x_iconst (v := 1) ⟨by decide, by decide⟩ (dtk dt_X12_fitsMap 60 (109, .iconst 1, 1) rfl) ?_
          exact r_b (b := true) (dtk dt_X12_fitsMap 61 (110, .ireturn, 1) rfl) rfl (by unfold mpP; rw [show v5 = t by omega] at h3; rw [h3, show decide (lev m d t = lev m e c) = true from by simp; exact c13]; rfl) rfl
        · skip
          have hx5 := hx v5 (by omega) (by omega)
          have J82_10 : ∀ (j6 : Bool), (j6 = ((rel d v5 t == rel e (M 51 v5) c) && (rel d t v5 == rel e c (M 51 v5)))) → MW G mi_X12_fitsMap (rmd 4 0 0) (MZ G (PQ (some (0, B (mpP m d e (M 51) t c))) n K (M)) 0 0) (0, 0) 82 [(0, (1, 36)), (1, (0, o)), (2, (0, p)), (3, (0, t)), (4, (0, c)), (5, (0, v5))] [(0, B j6)] n K (M) := by
            intro j6 hJ
            refine x_istore (dtk dt_X12_fitsMap 47 (82, .istore 6, 2) rfl) (by decide) ?_
            refine x_aload_n (dtk dt_X12_fitsMap 48 (84, .aload_n 0, 1) rfl) rfl ?_
            refine fg_X12_56 rfl (dtk dt_X12_fitsMap 49 (85, .getfield 56, 3) rfl) (wk_36 hA.wf) (wm_36_20 hA.wf) ?_
            refine x_iload (dtk dt_X12_fitsMap 50 (88, .iload 5, 2) rfl) rfl ?_
            refine x_iald (dtk dt_X12_fitsMap 51 (90, .iaload, 1) rfl) (wk_51 hA.wf) ⟨by omega, by omega⟩ ?_
            refine x_iload (dtk dt_X12_fitsMap 52 (91, .iload 4, 2) rfl) rfl ?_
            refine x_icmp_eq (tgt := 101) (dtk dt_X12_fitsMap 53 (93, .if_icmp .eq 8, 3) rfl) (by decide) (fun c93 => ?_) (fun c93 => ?_)
            · skip
              refine x_iconst (v := 0) ⟨by decide, by decide⟩ (dtk dt_X12_fitsMap 56 (101, .iconst 0, 1) rfl) ?_
              exact r_b (b := false) (dtk dt_X12_fitsMap 57 (102, .ireturn, 1) rfl) rfl (by symm; rw [Bool.eq_false_iff]; intro hq; unfold mpP at hq; rw [Bool.and_eq_true, allB_iff] at hq; have hz := hq.2 v5 h1.1 (by omega); rw [← hJ] at hz; simp_all) rfl
            · skip
              refine x_iload (dtk dt_X12_fitsMap 54 (96, .iload 6, 2) rfl) rfl ?_
              refine x_if_neB (tgt := 103) (dtk dt_X12_fitsMap 55 (98, .ifCond .ne 5, 3) rfl) (by decide) (fun c98 => ?_) (fun c98 => ?_)
              · skip
                refine y_iinc (dtk dt_X12_fitsMap 58 (103, .iinc 5 1, 3) rfl) rfl (by decide) ⟨by omega, by omega⟩ ?_
                refine x_goto (tgt := 21) (dtk dt_X12_fitsMap 59 (106, .goto (-85), 3) rfl) (by decide) ?_
                refine MW.sub [2, 3, 4, 5, 6, 0] rfl ?_
                exact ih21 _ (by omega) _ (by omega) (by clear ih21; rw [allB_s h1.1, h3, ← hJ, c98]; simp_all) rfl
              · skip
                refine x_iconst (v := 0) ⟨by decide, by decide⟩ (dtk dt_X12_fitsMap 56 (101, .iconst 0, 1) rfl) ?_
                exact r_b (b := false) (dtk dt_X12_fitsMap 57 (102, .ireturn, 1) rfl) rfl (by symm; rw [Bool.eq_false_iff]; intro hq; unfold mpP at hq; rw [Bool.and_eq_true, allB_iff] at hq; have hz := hq.2 v5 h1.1 (by omega); rw [← hJ] at hz; simp_all) rfl
          refine x_aload_n (dtk dt_X12_fitsMap 16 (27, .aload_n 0, 1) rfl) rfl ?_
          refine x_iload_n (dtk dt_X12_fitsMap 17 (28, .iload_n 1, 1) rfl) rfl ?_
          refine x_iload (dtk dt_X12_fitsMap 18 (29, .iload 5, 2) rfl) rfl ?_
          refine x_iload_n (dtk dt_X12_fitsMap 19 (31, .iload_n 3, 1) rfl) rfl ?_
          refine kc_X12_86 rfl (dtk dt_X12_fitsMap 20 (32, .invokevirtual 86, 3) rfl) (c_X12_isBelow (G := G)  hA (by omega) (by omega)) rfl rfl (wk_36 hA.wf) (fitR (by decide) (by decide)) (Nat.le_of_ble_eq_true rfl) (pqK ?_)
          refine x_aload_n (dtk dt_X12_fitsMap 21 (35, .aload_n 0, 1) rfl) rfl ?_
          refine x_iload_n (dtk dt_X12_fitsMap 22 (36, .iload_n 2, 1) rfl) rfl ?_
          refine x_aload_n (dtk dt_X12_fitsMap 23 (37, .aload_n 0, 1) rfl) rfl ?_
          refine fg_X12_56 rfl (dtk dt_X12_fitsMap 24 (38, .getfield 56, 3) rfl) (wk_36 hA.wf) (wm_36_20 hA.wf) ?_
          refine x_iload (dtk dt_X12_fitsMap 25 (41, .iload 5, 2) rfl) rfl ?_
          refine x_iald (dtk dt_X12_fitsMap 26 (43, .iaload, 1) rfl) (wk_51 hA.wf) ⟨by omega, by omega⟩ ?_
          refine x_iload (dtk dt_X12_fitsMap 27 (44, .iload 4, 2) rfl) rfl ?_
          refine kc_X12_86 rfl (dtk dt_X12_fitsMap 28 (46, .invokevirtual 86, 3) rfl) (c_X12_isBelow (G := G)  hB (by omega) (by omega)) rfl rfl (wk_36 hA.wf) (fitR (by decide) (by decide)) (Nat.le_of_ble_eq_true rfl) (pqK ?_)
          refine x_icmp_ne (tgt := 81) (dtk dt_X12_fitsMap 29 (49, .if_icmp .ne 32, 3) rfl) (by decide) (fun c49 => ?_) (fun c49 => ?_)
          · skip
            refine x_iconst (v := 0) ⟨by decide, by decide⟩ (dtk dt_X12_fitsMap 46 (81, .iconst 0, 1) rfl) ?_
            refine MW.sub [0, 1, 2, 3, 4, 5] rfl ?_
            exact J82_10 false (by clear ih21 J82_10; simp_all [B_iff])
          · skip
            refine x_aload_n (dtk dt_X12_fitsMap 30 (52, .aload_n 0, 1) rfl) rfl ?_
            refine x_iload_n (dtk dt_X12_fitsMap 31 (53, .iload_n 1, 1) rfl) rfl ?_
            refine x_iload_n (dtk dt_X12_fitsMap 32 (54, .iload_n 3, 1) rfl) rfl ?_
            refine x_iload (dtk dt_X12_fitsMap 33 (55, .iload 5, 2) rfl) rfl ?_
            refine kc_X12_86 rfl (dtk dt_X12_fitsMap 34 (57, .invokevirtual 86, 3) rfl) (c_X12_isBelow (G := G)  hA (by omega) (by omega)) rfl rfl (wk_36 hA.wf) (fitR (by decide) (by decide)) (Nat.le_of_ble_eq_true rfl) (pqK ?_)
            refine x_aload_n (dtk dt_X12_fitsMap 35 (60, .aload_n 0, 1) rfl) rfl ?_
            refine x_iload_n (dtk dt_X12_fitsMap 36 (61, .iload_n 2, 1) rfl) rfl ?_
            refine x_iload (dtk dt_X12_fitsMap 37 (62, .iload 4, 2) rfl) rfl ?_
            refine x_aload_n (dtk dt_X12_fitsMap 38 (64, .aload_n 0, 1) rfl) rfl ?_
            refine fg_X12_56 rfl (dtk dt_X12_fitsMap 39 (65, .getfield 56, 3) rfl) (wk_36 hA.wf) (wm_36_20 hA.wf) ?_
            refine x_iload (dtk dt_X12_fitsMap 40 (68, .iload 5, 2) rfl) rfl ?_
            refine x_iald (dtk dt_X12_fitsMap 41 (70, .iaload, 1) rfl) (wk_51 hA.wf) ⟨by omega, by omega⟩ ?_
            refine kc_X12_86 rfl (dtk dt_X12_fitsMap 42 (71, .invokevirtual 86, 3) rfl) (c_X12_isBelow (G := G)  hB (by omega) (by omega)) rfl rfl (wk_36 hA.wf) (fitR (by decide) (by decide)) (Nat.le_of_ble_eq_true rfl) (pqK ?_)
            refine x_icmp_ne (tgt := 81) (dtk dt_X12_fitsMap 43 (74, .if_icmp .ne 7, 3) rfl) (by decide) (fun c74 => ?_) (fun c74 => ?_)
            · skip
              refine x_iconst (v := 0) ⟨by decide, by decide⟩ (dtk dt_X12_fitsMap 46 (81, .iconst 0, 1) rfl) ?_
              refine MW.sub [0, 1, 2, 3, 4, 5] rfl ?_
              exact J82_10 false (by clear ih21 J82_10; simp_all [B_iff])
            · skip
              refine x_iconst (v := 1) ⟨by decide, by decide⟩ (dtk dt_X12_fitsMap 44 (77, .iconst 1, 1) rfl) ?_
              refine x_goto (tgt := 82) (dtk dt_X12_fitsMap 45 (78, .goto 4, 3) rfl) (by decide) ?_
              refine MW.sub [0, 1, 2, 3, 4, 5] rfl ?_
              exact J82_10 true (by clear ih21 J82_10; simp_all [B_iff])
    refine MW.sub [1, 2, 3, 4, 5, 0] rfl ?_
    exact L21 _ _ (by omega) rfl rfl
  · skip
    refine x_iconst (v := 0) ⟨by decide, by decide⟩ (dtk dt_X12_fitsMap 9 (16, .iconst 0, 1) rfl) ?_
    exact r_b (b := false) (dtk dt_X12_fitsMap 10 (17, .ireturn, 1) rfl) rfl (by unfold mpP; rw [show decide (lev m d t = lev m e c) = false from by simp; exact c13]; rfl) rfl
set_option maxRecDepth 100000 in
set_option maxHeartbeats 4000000 in
theorem c_X12_same {G : GG} {n : Nat} {K : KK} {M : MM} {o p a : Int} (hm : MO K M) : MC G mi_X12_same 5 0 0 [(1, 36), (0, o), (0, p), (0, a)] n K M (SQ (some (0, if isTh M o a && isOr M p && decide (M 38 o = M 38 p) then oat (mpR (M 38 o) (dM M o) (dM M p)) a else -1)) n K M (fun _ => True)) := by
  refine MC.intro (lc := [(0, (1, 36)), (1, (0, o)), (2, (0, p)), (3, (0, a))]) (by decide) rfl (by simp [Nat.ble]) (Nat.le_of_ble_eq_true rfl) rfl (fun hMR => ?_)
  refine x_aload_n (dtk dt_X12_same 0 (0, .aload_n 0, 1) rfl) rfl ?_
  refine x_iload_n (dtk dt_X12_same 1 (1, .iload_n 1, 1) rfl) rfl ?_
  refine x_iload_n (dtk dt_X12_same 2 (2, .iload_n 3, 1) rfl) rfl ?_
  refine kc_X12_110 rfl (dtk dt_X12_same 3 (3, .invokevirtual 110, 3) rfl) (c_X12_isThing (G := G)  hm) rfl rfl (wk_36 hm.1) (fitR (by decide) (by decide)) (Nat.le_of_ble_eq_true rfl) (pqK ?_)
  refine x_if_eqB (tgt := 32) (dtk dt_X12_same 4 (6, .ifCond .eq 26, 3) rfl) (by decide) (fun c6 => ?_) (fun c6 => ?_)
  · skip
    refine x_iconst (v := -1) ⟨by decide, by decide⟩ (dtk dt_X12_same 18 (32, .iconst (-1), 1) rfl) ?_
    exact rs_i (dtk dt_X12_same 19 (33, .ireturn, 1) rfl) rfl (by first | (rw [c6]; rfl) | (rw [c14, Bool.and_false]; rfl) | (rw [show decide (M 38 o = M 38 p) = false from by simp; exact c29, Bool.and_false]; rfl)) sc.rf trivial
  · skip
    refine x_aload_n (dtk dt_X12_same 5 (9, .aload_n 0, 1) rfl) rfl ?_
    refine x_iload_n (dtk dt_X12_same 6 (10, .iload_n 2, 1) rfl) rfl ?_
    refine kc_X12_78 rfl (dtk dt_X12_same 7 (11, .invokevirtual 78, 3) rfl) (c_X12_isOrder (G := G)  hm) rfl rfl (wk_36 hm.1) (fitR (by decide) (by decide)) (Nat.le_of_ble_eq_true rfl) (pqK ?_)
    refine x_if_eqB (tgt := 32) (dtk dt_X12_same 8 (14, .ifCond .eq 18, 3) rfl) (by decide) (fun c14 => ?_) (fun c14 => ?_)
    · skip
      refine x_iconst (v := -1) ⟨by decide, by decide⟩ (dtk dt_X12_same 18 (32, .iconst (-1), 1) rfl) ?_
      exact rs_i (dtk dt_X12_same 19 (33, .ireturn, 1) rfl) rfl (by first | (rw [c6]; rfl) | (rw [c14, Bool.and_false]; rfl) | (rw [show decide (M 38 o = M 38 p) = false from by simp; exact c29, Bool.and_false]; rfl)) sc.rf trivial
    · skip
      have ht := isTh_of hm c6
      have hp := isOr_of hm c14
      refine x_aload_n (dtk dt_X12_same 9 (17, .aload_n 0, 1) rfl) rfl ?_
      refine fg_X12_13 rfl (dtk dt_X12_same 10 (18, .getfield 13, 3) rfl) (wk_36 hm.1) (wm_36_2 hm.1) ?_
      refine x_iload_n (dtk dt_X12_same 11 (21, .iload_n 1, 1) rfl) rfl ?_
      refine x_iald (dtk dt_X12_same 12 (22, .iaload, 1) rfl) (wk_38 hm.1) ⟨by omega, by omega⟩ ?_
      refine x_aload_n (dtk dt_X12_same 13 (23, .aload_n 0, 1) rfl) rfl ?_
      refine fg_X12_13 rfl (dtk dt_X12_same 14 (24, .getfield 13, 3) rfl) (wk_36 hm.1) (wm_36_2 hm.1) ?_
      refine x_iload_n (dtk dt_X12_same 15 (27, .iload_n 2, 1) rfl) rfl ?_
      refine x_iald (dtk dt_X12_same 16 (28, .iaload, 1) rfl) (wk_38 hm.1) ⟨by omega, by omega⟩ ?_
      refine x_icmp_eq (tgt := 34) (dtk dt_X12_same 17 (29, .if_icmp .eq 5, 3) rfl) (by decide) (fun c29 => ?_) (fun c29 => ?_)
      · skip
        have hA : AT K M o (M 38 o) (dM M o) := ⟨hm, ht.1, rfl, rfl⟩
        have hB : AT K M p (M 38 o) (dM M p) := ⟨hm, hp, c29.symm, rfl⟩
        have hsz := hA.ok.1
        have hcond : (isTh M o a && isOr M p && decide (M 38 o = M 38 p)) = true := by (rw [c6, c14]; simp; exact c29)
        refine x_aload_n (dtk dt_X12_same 20 (34, .aload_n 0, 1) rfl) rfl ?_
        refine fg_X12_13 rfl (dtk dt_X12_same 21 (35, .getfield 13, 3) rfl) (wk_36 hA.wf) (wm_36_2 hA.wf) ?_
        refine x_iload_n (dtk dt_X12_same 22 (38, .iload_n 1, 1) rfl) rfl ?_
        refine x_iald (dtk dt_X12_same 23 (39, .iaload, 1) rfl) (wk_38 hA.wf) ⟨by omega, by omega⟩ ?_
        refine x_istore (dtk dt_X12_same 24 (40, .istore 4, 2) rfl) (by decide) ?_
        refine x_iconst (v := 0) ⟨by decide, by decide⟩ (dtk dt_X12_same 25 (42, .iconst 0, 1) rfl) ?_
        refine x_istore (dtk dt_X12_same 26 (43, .istore 5, 2) rfl) (by decide) ?_
        have L45 : ∀ (fu : Nat) (v5 : Int), (0 ≤ v5 ∧ v5 ≤ M 38 o) → (allB v5 (fun c => decide (ofLev (M 38 o) (dM M o) (lev (M 38 o) (dM M o) c) = ofLev (M 38 o) (dM M p) (lev (M 38 o) (dM M o) c))) = true) → (M 38 o - v5).toNat = fu → MW G mi_X12_same (rmd 5 0 0) (MZ G (SQ (some (0, if isTh M o a && isOr M p && decide (M 38 o = M 38 p) then oat (mpR (M 38 o) (dM M o) (dM M p)) a else -1)) n K M (fun _ => True)) 0 0) (0, 0) 45 [(0, (1, 36)), (1, (0, o)), (2, (0, p)), (3, (0, a)), (4, (0, M 38 o)), (5, (0, v5))] [] n K (M) := by
          intro fu
          induction fu using Nat.strongRecOn with
          | ind fu ih45 =>
            intro v5 h1 h3 hk45
            refine x_iload (dtk dt_X12_same 27 (45, .iload 5, 2) rfl) rfl ?_
            refine x_iload (dtk dt_X12_same 28 (47, .iload 4, 2) rfl) rfl ?_
            refine x_icmp_ge (tgt := 86) (dtk dt_X12_same 29 (49, .if_icmp .ge 37, 3) rfl) (by decide) (fun c49 => ?_) (fun c49 => ?_)
            · skip
              refine x_iconst (v := 0) ⟨by decide, by decide⟩ (dtk dt_X12_same 48 (86, .iconst 0, 1) rfl) ?_
              refine x_istore (dtk dt_X12_same 49 (87, .istore 5, 2) rfl) (by decide) ?_
              refine x_aload_n (dtk dt_X12_same 50 (89, .aload_n 0, 1) rfl) rfl ?_
              refine fg_X12_56 rfl (dtk dt_X12_same 51 (90, .getfield 56, 3) rfl) (wk_36 hA.wf) (wm_36_20 hA.wf) ?_
              refine x_iconst (v := 0) ⟨by decide, by decide⟩ (dtk dt_X12_same 52 (93, .iconst 0, 1) rfl) ?_
              refine x_iconst (v := -1) ⟨by decide, by decide⟩ (dtk dt_X12_same 53 (94, .iconst (-1), 1) rfl) ?_
              refine x_iast (dtk dt_X12_same 54 (95, .iastore, 1) rfl) (wk_51 hA.wf) ⟨by omega, by omega⟩ ?_
              have L96 : ∀ (fu : Nat) (v5 : Int) (M1 : MM), (-1 ≤ v5 ∧ v5 ≤ M 38 o) → (sc M M1) → (∀ i, 0 ≤ i → i < v5 → 0 ≤ M1 51 i ∧ M1 51 i < M 38 o) → (0 ≤ v5 → -1 ≤ M1 51 v5 ∧ M1 51 v5 < M 38 o) → (bk (M 38 o) (M 38 o) (mpP (M 38 o) (dM M o) (dM M p)) (M1 51) (v5 + 1).toNat = mpR (M 38 o) (dM M o) (dM M p)) → mu (M1 51) (v5 + 1).toNat = fu → MW G mi_X12_same (rmd 5 0 0) (MZ G (SQ (some (0, if isTh M o a && isOr M p && decide (M 38 o = M 38 p) then oat (mpR (M 38 o) (dM M o) (dM M p)) a else -1)) n K M (fun _ => True)) 0 0) (0, 0) 96 [(0, (1, 36)), (1, (0, o)), (2, (0, p)), (3, (0, a)), (4, (0, M 38 o)), (5, (0, v5))] [] n K (M1) := by
                intro fu
                induction fu using Nat.strongRecOn with
                | ind fu ih96 =>
                  intro v5 M1 h1 hs1 hx hy hb hk96
                  refine x_iload (dtk dt_X12_same 55 (96, .iload 5, 2) rfl) rfl ?_
                  refine x_if_lt (tgt := 195) (dtk dt_X12_same 56 (98, .ifCond .lt 97, 3) rfl) (by decide) (fun c98 => ?_) (fun c98 => ?_)
                  · skip
                    refine x_iload (dtk dt_X12_same 108 (195, .iload 5, 2) rfl) rfl ?_
                    refine x_if_ge (tgt := 204) (dtk dt_X12_same 109 (197, .ifCond .ge 7, 3) rfl) (by decide) (fun c197 => ?_) (fun c197 => ?_)
                    · skip
                      refine x_aload_n (dtk dt_X12_same 112 (204, .aload_n 0, 1) rfl) rfl ?_
                      refine fg_X12_56 rfl (dtk dt_X12_same 113 (205, .getfield 56, 3) rfl) (wk_36 hA.wf) (wm_36_20 (hA.off hs1).wf) ?_
                      refine x_iload_n (dtk dt_X12_same 114 (208, .iload_n 3, 1) rfl) rfl ?_
                      refine x_iald (dtk dt_X12_same 115 (209, .iaload, 1) rfl) (wk_51 hA.wf) ⟨by omega, by omega⟩ ?_
                      exact rs_i (dtk dt_X12_same 116 (210, .ireturn, 1) rfl) rfl (by rw [if_pos hcond]; first | (exfalso; omega) | (rw [show v5 = -1 by omega] at hb; rw [← hb]; rfl) | (rw [show v5 = M 38 o by omega, bk_n (by omega)] at hb; rw [← hb]; show _ = nrm (M 38 o) (M1 51) a; unfold nrm; rw [if_pos ⟨by omega, by omega⟩])) hs1 trivial
                    · skip
                      refine x_iconst (v := -1) ⟨by decide, by decide⟩ (dtk dt_X12_same 110 (200, .iconst (-1), 1) rfl) ?_
                      refine x_goto (tgt := 210) (dtk dt_X12_same 111 (201, .goto 9, 3) rfl) (by decide) ?_
                      exact rs_i (dtk dt_X12_same 116 (210, .ireturn, 1) rfl) rfl (by rw [if_pos hcond]; first | (exfalso; omega) | (rw [show v5 = -1 by omega] at hb; rw [← hb]; rfl) | (rw [show v5 = M 38 o by omega, bk_n (by omega)] at hb; rw [← hb]; show _ = nrm (M 38 o) (M1 51) a; unfold nrm; rw [if_pos ⟨by omega, by omega⟩])) hs1 trivial
                  · skip
                    refine x_iload (dtk dt_X12_same 57 (101, .iload 5, 2) rfl) rfl ?_
                    refine x_iload (dtk dt_X12_same 58 (103, .iload 4, 2) rfl) rfl ?_
                    refine x_icmp_ge (tgt := 195) (dtk dt_X12_same 59 (105, .if_icmp .ge 90, 3) rfl) (by decide) (fun c105 => ?_) (fun c105 => ?_)
                    · skip
                      refine x_iload (dtk dt_X12_same 108 (195, .iload 5, 2) rfl) rfl ?_
                      refine x_if_ge (tgt := 204) (dtk dt_X12_same 109 (197, .ifCond .ge 7, 3) rfl) (by decide) (fun c197 => ?_) (fun c197 => ?_)
                      · skip
                        refine x_aload_n (dtk dt_X12_same 112 (204, .aload_n 0, 1) rfl) rfl ?_
                        refine fg_X12_56 rfl (dtk dt_X12_same 113 (205, .getfield 56, 3) rfl) (wk_36 hA.wf) (wm_36_20 (hA.off hs1).wf) ?_
                        refine x_iload_n (dtk dt_X12_same 114 (208, .iload_n 3, 1) rfl) rfl ?_
                        refine x_iald (dtk dt_X12_same 115 (209, .iaload, 1) rfl) (wk_51 hA.wf) ⟨by omega, by omega⟩ ?_
                        exact rs_i (dtk dt_X12_same 116 (210, .ireturn, 1) rfl) rfl (by rw [if_pos hcond]; first | (exfalso; omega) | (rw [show v5 = -1 by omega] at hb; rw [← hb]; rfl) | (rw [show v5 = M 38 o by omega, bk_n (by omega)] at hb; rw [← hb]; show _ = nrm (M 38 o) (M1 51) a; unfold nrm; rw [if_pos ⟨by omega, by omega⟩])) hs1 trivial
                      · skip
                        refine x_iconst (v := -1) ⟨by decide, by decide⟩ (dtk dt_X12_same 110 (200, .iconst (-1), 1) rfl) ?_
                        refine x_goto (tgt := 210) (dtk dt_X12_same 111 (201, .goto 9, 3) rfl) (by decide) ?_
                        exact rs_i (dtk dt_X12_same 116 (210, .ireturn, 1) rfl) rfl (by rw [if_pos hcond]; first | (exfalso; omega) | (rw [show v5 = -1 by omega] at hb; rw [← hb]; rfl) | (rw [show v5 = M 38 o by omega, bk_n (by omega)] at hb; rw [← hb]; show _ = nrm (M 38 o) (M1 51) a; unfold nrm; rw [if_pos ⟨by omega, by omega⟩])) hs1 trivial
                    · skip
                      refine x_aload_n (dtk dt_X12_same 60 (108, .aload_n 0, 1) rfl) rfl ?_
                      refine fg_X12_56 rfl (dtk dt_X12_same 61 (109, .getfield 56, 3) rfl) (wk_36 hA.wf) (wm_36_20 (hA.off hs1).wf) ?_
                      refine x_iload (dtk dt_X12_same 62 (112, .iload 5, 2) rfl) rfl ?_
                      refine x_dup2 rfl rfl (dtk dt_X12_same 63 (114, .dup2, 1) rfl) ?_
                      refine x_iald (dtk dt_X12_same 64 (115, .iaload, 1) rfl) (wk_51 hA.wf) ⟨by omega, by omega⟩ ?_
                      refine x_iconst (v := 1) ⟨by decide, by decide⟩ (dtk dt_X12_same 65 (116, .iconst 1, 1) rfl) ?_
                      refine y_iadd (dtk dt_X12_same 66 (117, .iadd, 1) rfl) ⟨by omega, by omega⟩ ?_
                      refine x_iast (dtk dt_X12_same 67 (118, .iastore, 1) rfl) (wk_51 hA.wf) ⟨by omega, by omega⟩ ?_
                      have L119 : ∀ (fu : Nat) (M2 : MM), (sc M M2) → (∀ i, 0 ≤ i → i < v5 → M2 51 i = M1 51 i) → (M1 51 v5 < M2 51 v5 ∧ M2 51 v5 ≤ M 38 o) → (now (M 38 o) (M 38 o) (mpP (M 38 o) (dM M o) (dM M p)) (M2 51) v5 = mpR (M 38 o) (dM M o) (dM M p)) → (M 38 o - M2 51 v5).toNat = fu → MW G mi_X12_same (rmd 5 0 0) (MZ G (SQ (some (0, if isTh M o a && isOr M p && decide (M 38 o = M 38 p) then oat (mpR (M 38 o) (dM M o) (dM M p)) a else -1)) n K M (fun _ => True)) 0 0) (0, 0) 119 [(0, (1, 36)), (1, (0, o)), (2, (0, p)), (3, (0, a)), (4, (0, M 38 o)), (5, (0, v5))] [] n K (M2) := by
                        intro fu
                        induction fu using Nat.strongRecOn with
                        | ind fu ih119 =>
                          intro M2 hs2 ha hc hn hk119
                          refine x_aload_n (dtk dt_X12_same 68 (119, .aload_n 0, 1) rfl) rfl ?_
                          have J163_26 : (M 38 o ≤ M2 51 v5 ∨ (mpP (M 38 o) (dM M o) (dM M p)) (M2 51) v5 (M2 51 v5) = true) → MW G mi_X12_same (rmd 5 0 0) (MZ G (SQ (some (0, if isTh M o a && isOr M p && decide (M 38 o = M 38 p) then oat (mpR (M 38 o) (dM M o) (dM M p)) a else -1)) n K M (fun _ => True)) 0 0) (0, 0) 163 [(0, (1, 36)), (1, (0, o)), (2, (0, p)), (3, (0, a)), (4, (0, M 38 o)), (5, (0, v5))] [] n K (M2) := by
                            intro  hJ
                            have hx2 : ∀ i, 0 ≤ i → i < v5 → 0 ≤ M2 51 i ∧ M2 51 i < M 38 o := fun i h0 h1 => by rw [ha i h0 h1]; exact hx i h0 h1
                            refine x_aload_n (dtk dt_X12_same 93 (163, .aload_n 0, 1) rfl) rfl ?_
                            refine fg_X12_56 rfl (dtk dt_X12_same 94 (164, .getfield 56, 3) rfl) (wk_36 hA.wf) (wm_36_20 (hA.off hs2).wf) ?_
                            refine x_iload (dtk dt_X12_same 95 (167, .iload 5, 2) rfl) rfl ?_
                            refine x_iald (dtk dt_X12_same 96 (169, .iaload, 1) rfl) (wk_51 hA.wf) ⟨by omega, by omega⟩ ?_
                            refine x_iload (dtk dt_X12_same 97 (170, .iload 4, 2) rfl) rfl ?_
                            refine x_icmp_ge (tgt := 189) (dtk dt_X12_same 98 (172, .if_icmp .ge 17, 3) rfl) (by decide) (fun c172 => ?_) (fun c172 => ?_)
                            · skip
                              refine y_iinc (dtk dt_X12_same 106 (189, .iinc 5 (-1), 3) rfl) rfl (by decide) ⟨by omega, by omega⟩ ?_
                              refine x_goto (tgt := 96) (dtk dt_X12_same 107 (192, .goto (-96), 3) rfl) (by decide) ?_
                              refine MW.sub [1, 2, 3, 4, 5, 0] rfl ?_
                              exact ih96 _ (by rw [← hk96]; first | (rw [st2_up]; exact mu_next ⟨by omega, by omega⟩ (fun i h0 h1 => by rw [show up (M2 51) (v5 + 1) (-1) i = M2 51 i from if_neg (by omega)]; exact ha i h0 h1) (by rw [show up (M2 51) (v5 + 1) (-1) v5 = M2 51 v5 from if_neg (by omega)]; omega) (if_pos rfl)) | (rw [show v5 + -1 + 1 = v5 by omega]; exact mu_back (by omega) (fun i h0 h1 => ha i h0 h1) (by omega))) _ _ (by omega) hs2 (fun i h0 hi => by first | (rw [st2_up, show up (M2 51) (v5 + 1) (-1) i = M2 51 i from if_neg (by omega)]; by_cases hq : i = v5; (rw [hq]; omega); exact hx2 i h0 (by omega)) | exact hx2 i h0 (by omega)) (fun hv => by first | (rw [st2_self]; omega) | (have hz := hx2 (v5 + -1) (by omega) (by omega); omega)) (by first | (rw [st2_up, now_ok (mpP_loc (M 38 o) (dM M o) (dM M p)) ⟨by omega, by omega⟩ (by omega) (by omega) hf]; exact hn) | (rw [now_e ⟨by omega, by omega⟩ (by omega)] at hn; rw [show v5 + -1 + 1 = v5 by omega]; exact hn)) rfl
                            · skip
                              have hf : (mpP (M 38 o) (dM M o) (dM M p)) (M2 51) v5 (M2 51 v5) = true := by (rcases hJ with hJ | hJ; omega; exact hJ)
                              refine y_iinc (dtk dt_X12_same 99 (175, .iinc 5 1, 3) rfl) rfl (by decide) ⟨by omega, by omega⟩ ?_
                              refine x_aload_n (dtk dt_X12_same 100 (178, .aload_n 0, 1) rfl) rfl ?_
                              refine fg_X12_56 rfl (dtk dt_X12_same 101 (179, .getfield 56, 3) rfl) (wk_36 hA.wf) (wm_36_20 (hA.off hs2).wf) ?_
                              refine x_iload (dtk dt_X12_same 102 (182, .iload 5, 2) rfl) rfl ?_
                              refine x_iconst (v := -1) ⟨by decide, by decide⟩ (dtk dt_X12_same 103 (184, .iconst (-1), 1) rfl) ?_
                              refine x_iast (dtk dt_X12_same 104 (185, .iastore, 1) rfl) (wk_51 hA.wf) ⟨by omega, by omega⟩ ?_
                              refine x_goto (tgt := 96) (dtk dt_X12_same 105 (186, .goto (-90), 3) rfl) (by decide) ?_
                              refine MW.sub [1, 2, 3, 4, 5, 0] rfl ?_
                              exact ih96 _ (by rw [← hk96]; first | (rw [st2_up]; exact mu_next ⟨by omega, by omega⟩ (fun i h0 h1 => by rw [show up (M2 51) (v5 + 1) (-1) i = M2 51 i from if_neg (by omega)]; exact ha i h0 h1) (by rw [show up (M2 51) (v5 + 1) (-1) v5 = M2 51 v5 from if_neg (by omega)]; omega) (if_pos rfl)) | (rw [show v5 + -1 + 1 = v5 by omega]; exact mu_back (by omega) (fun i h0 h1 => ha i h0 h1) (by omega))) _ _ (by omega) (sc.st 51 rfl hs2) (fun i h0 hi => by first | (rw [st2_up, show up (M2 51) (v5 + 1) (-1) i = M2 51 i from if_neg (by omega)]; by_cases hq : i = v5; (rw [hq]; omega); exact hx2 i h0 (by omega)) | exact hx2 i h0 (by omega)) (fun hv => by first | (rw [st2_self]; omega) | (have hz := hx2 (v5 + -1) (by omega) (by omega); omega)) (by first | (rw [st2_up, now_ok (mpP_loc (M 38 o) (dM M o) (dM M p)) ⟨by omega, by omega⟩ (by omega) (by omega) hf]; exact hn) | (rw [now_e ⟨by omega, by omega⟩ (by omega)] at hn; rw [show v5 + -1 + 1 = v5 by omega]; exact hn)) rfl
                          refine fg_X12_56 rfl (dtk dt_X12_same 69 (120, .getfield 56, 3) rfl) (wk_36 hA.wf) (wm_36_20 (hA.off hs2).wf) ?_
                          refine x_iload (dtk dt_X12_same 70 (123, .iload 5, 2) rfl) rfl ?_
                          refine x_iald (dtk dt_X12_same 71 (125, .iaload, 1) rfl) (wk_51 hA.wf) ⟨by omega, by omega⟩ ?_
                          refine x_iload (dtk dt_X12_same 72 (126, .iload 4, 2) rfl) rfl ?_
                          refine x_icmp_ge (tgt := 163) (dtk dt_X12_same 73 (128, .if_icmp .ge 35, 3) rfl) (by decide) (fun c128 => ?_) (fun c128 => ?_)
                          · skip
                            refine MW.sub [0, 1, 2, 3, 4, 5] rfl ?_
                            exact J163_26  (by first | exact Or.inr c146 | (exact Or.inl (by omega)))
                          · skip
                            refine x_aload_n (dtk dt_X12_same 74 (131, .aload_n 0, 1) rfl) rfl ?_
                            refine x_iload_n (dtk dt_X12_same 75 (132, .iload_n 1, 1) rfl) rfl ?_
                            refine x_iload_n (dtk dt_X12_same 76 (133, .iload_n 2, 1) rfl) rfl ?_
                            refine x_iload (dtk dt_X12_same 77 (134, .iload 5, 2) rfl) rfl ?_
                            refine x_aload_n (dtk dt_X12_same 78 (136, .aload_n 0, 1) rfl) rfl ?_
                            refine fg_X12_56 rfl (dtk dt_X12_same 79 (137, .getfield 56, 3) rfl) (wk_36 hA.wf) (wm_36_20 (hA.off hs2).wf) ?_
                            refine x_iload (dtk dt_X12_same 80 (140, .iload 5, 2) rfl) rfl ?_
                            refine x_iald (dtk dt_X12_same 81 (142, .iaload, 1) rfl) (wk_51 hA.wf) ⟨by omega, by omega⟩ ?_
                            refine kc_X12_225 rfl (dtk dt_X12_same 82 (143, .invokevirtual 225, 3) rfl) (c_X12_fitsMap (G := G)  (hA.off hs2) (hB.off hs2) (by omega) (by omega) (fun i h0 h1 => by have hz := hx i h0 h1; rw [ha i h0 h1]; omega)) rfl rfl (wk_36 hA.wf) (fitR (by decide) (by decide)) (Nat.le_of_ble_eq_true rfl) (pqK ?_)
                            refine x_if_neB (tgt := 163) (dtk dt_X12_same 83 (146, .ifCond .ne 17, 3) rfl) (by decide) (fun c146 => ?_) (fun c146 => ?_)
                            · skip
                              refine MW.sub [0, 1, 2, 3, 4, 5] rfl ?_
                              exact J163_26  (by first | exact Or.inr c146 | (exact Or.inl (by omega)))
                            · skip
                              refine x_aload_n (dtk dt_X12_same 84 (149, .aload_n 0, 1) rfl) rfl ?_
                              refine fg_X12_56 rfl (dtk dt_X12_same 85 (150, .getfield 56, 3) rfl) (wk_36 hA.wf) (wm_36_20 (hA.off hs2).wf) ?_
                              refine x_iload (dtk dt_X12_same 86 (153, .iload 5, 2) rfl) rfl ?_
                              refine x_dup2 rfl rfl (dtk dt_X12_same 87 (155, .dup2, 1) rfl) ?_
                              refine x_iald (dtk dt_X12_same 88 (156, .iaload, 1) rfl) (wk_51 hA.wf) ⟨by omega, by omega⟩ ?_
                              refine x_iconst (v := 1) ⟨by decide, by decide⟩ (dtk dt_X12_same 89 (157, .iconst 1, 1) rfl) ?_
                              refine y_iadd (dtk dt_X12_same 90 (158, .iadd, 1) rfl) ⟨by omega, by omega⟩ ?_
                              refine x_iast (dtk dt_X12_same 91 (159, .iastore, 1) rfl) (wk_51 hA.wf) ⟨by omega, by omega⟩ ?_
                              refine x_goto (tgt := 119) (dtk dt_X12_same 92 (160, .goto (-41), 3) rfl) (by decide) ?_
                              refine MW.sub [0, 1, 2, 3, 4, 5] rfl ?_
                              exact ih119 _ (by rw [st2_self]; omega) _ (sc.st 51 rfl hs2) (fun i h0 h1 => by rw [st2_up]; exact (if_neg (by omega)).trans (ha i h0 h1)) (by rw [st2_self]; omega) (by rw [st2_up, now_no (mpP_loc (M 38 o) (dM M o) (dM M p)) ⟨by omega, by omega⟩ (by omega) c146]; exact hn) rfl
                      refine MW.sub [0, 1, 2, 3, 4, 5] rfl ?_
                      exact L119 _ _ (sc.st 51 rfl hs1) (fun i h0 h1 => by rw [st2_up]; exact if_neg (by omega)) (by rw [st2_self]; omega) (by rw [st2_up, bk_in (mpP_loc (M 38 o) (dM M o) (dM M p)) ⟨by omega, by omega⟩]; exact hb) rfl
              refine MW.sub [1, 2, 3, 4, 5, 0] rfl ?_
              exact L96 _ _ _ (by omega) (sc.st 51 rfl sc.rf) (fun i h0 h1 => by omega) (fun _ => by rw [st2_self]; omega) (by rw [show mpR (M 38 o) (dM M o) (dM M p) = dfs (M 38 o) (M 38 o) (mpP (M 38 o) (dM M o) (dM M p)) from if_pos (by rw [show v5 = M 38 o by omega] at h3; exact h3)]; exact bk_0 (by omega) (mpP_loc _ _ _) (by rw [st2_self])) rfl
            · skip
              refine x_aload_n (dtk dt_X12_same 30 (52, .aload_n 0, 1) rfl) rfl ?_
              refine x_iload_n (dtk dt_X12_same 31 (53, .iload_n 1, 1) rfl) rfl ?_
              refine x_iload (dtk dt_X12_same 32 (54, .iload 5, 2) rfl) rfl ?_
              refine kc_X12_219 rfl (dtk dt_X12_same 33 (56, .invokevirtual 219, 3) rfl) (c_X12_levelOf (G := G)  hA (by omega)) rfl rfl (wk_36 hA.wf) (fitR (by decide) (by decide)) (Nat.le_of_ble_eq_true rfl) (pqK ?_)
              refine x_istore (dtk dt_X12_same 34 (59, .istore 6, 2) rfl) (by decide) ?_
              refine x_aload_n (dtk dt_X12_same 35 (61, .aload_n 0, 1) rfl) rfl ?_
              refine x_iload_n (dtk dt_X12_same 36 (62, .iload_n 1, 1) rfl) rfl ?_
              refine x_iload (dtk dt_X12_same 37 (63, .iload 6, 2) rfl) rfl ?_
              refine kc_X12_222 rfl (dtk dt_X12_same 38 (65, .invokevirtual 222, 3) rfl) (c_X12_ofLevel (G := G)  hA) rfl rfl (wk_36 hA.wf) (fitR (by decide) (by decide)) (Nat.le_of_ble_eq_true rfl) (pqK ?_)
              refine x_aload_n (dtk dt_X12_same 39 (68, .aload_n 0, 1) rfl) rfl ?_
              refine x_iload_n (dtk dt_X12_same 40 (69, .iload_n 2, 1) rfl) rfl ?_
              refine x_iload (dtk dt_X12_same 41 (70, .iload 6, 2) rfl) rfl ?_
              refine kc_X12_222 rfl (dtk dt_X12_same 42 (72, .invokevirtual 222, 3) rfl) (c_X12_ofLevel (G := G)  hB) rfl rfl (wk_36 hA.wf) (fitR (by decide) (by decide)) (Nat.le_of_ble_eq_true rfl) (pqK ?_)
              refine x_icmp_eq (tgt := 80) (dtk dt_X12_same 43 (75, .if_icmp .eq 5, 3) rfl) (by decide) (fun c75 => ?_) (fun c75 => ?_)
              · skip
                refine y_iinc (dtk dt_X12_same 46 (80, .iinc 5 1, 3) rfl) rfl (by decide) ⟨by omega, by omega⟩ ?_
                refine x_goto (tgt := 45) (dtk dt_X12_same 47 (83, .goto (-38), 3) rfl) (by decide) ?_
                refine MW.sub [2, 3, 4, 5, 6, 0] rfl ?_
                exact ih45 _ (by omega) _ (by omega) (by rw [allB_s h1.1, h3]; simp; exact c75) rfl
              · skip
                refine x_iconst (v := -1) ⟨by decide, by decide⟩ (dtk dt_X12_same 44 (78, .iconst (-1), 1) rfl) ?_
                exact rs_i (dtk dt_X12_same 45 (79, .ireturn, 1) rfl) rfl (by rw [if_pos hcond, show mpR (M 38 o) (dM M o) (dM M p) = none from if_neg (fun hq => c75 (by have := allB_iff.mp hq v5 h1.1 (by omega); simpa using this))]; rfl) sc.rf trivial
        refine MW.sub [2, 3, 4, 5, 1, 0] rfl ?_
        exact L45 _ _ (by omega) rfl rfl
      · skip
        refine x_iconst (v := -1) ⟨by decide, by decide⟩ (dtk dt_X12_same 18 (32, .iconst (-1), 1) rfl) ?_
        exact rs_i (dtk dt_X12_same 19 (33, .ireturn, 1) rfl) rfl (by first | (rw [c6]; rfl) | (rw [c14, Bool.and_false]; rfl) | (rw [show decide (M 38 o = M 38 p) = false from by simp; exact c29, Bool.and_false]; rfl)) sc.rf trivial
