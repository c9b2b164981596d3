/-! ===== the model: sets, bounds ===== -/
set_option maxRecDepth 100000 in
set_option maxHeartbeats 4000000 in
theorem c_X12_isAntichain {G : GG} {n : Nat} {K : KK} {M : MM} {o s : Int} {m : Int} {d : Int → Int} (hA : AT K M o m d) (hs : nn s) : MC G mi_X12_isAntichain 2 0 0 [(1, 36), (0, o), (0, s)] n K M (PQ (some (0, B (anti m d s))) n K (M)) := by
  refine MC.intro (lc := [(0, (1, 36)), (1, (0, o)), (2, (0, s))]) (by decide) rfl (by simp [Nat.ble]) (Nat.le_of_ble_eq_true rfl) rfl (fun hMR => ?_)
  have ho := hA.2.1
  have hsz := hA.ok.1
  refine x_iconst (v := 1) ⟨by decide, by decide⟩ (dtk dt_X12_isAntichain 0 (0, .iconst 1, 1) rfl) ?_
  refine x_istore_n (dtk dt_X12_isAntichain 1 (1, .istore_n 3, 1) rfl) (by decide) ?_
  refine x_iconst (v := 0) ⟨by decide, by decide⟩ (dtk dt_X12_isAntichain 2 (2, .iconst 0, 1) rfl) ?_
  refine x_istore (dtk dt_X12_isAntichain 3 (3, .istore 4, 2) rfl) (by decide) ?_
  have L5 : ∀ (fu : Nat) (v3 : Bool) (v4 : Int), (0 ≤ v4 ∧ v4 ≤ m) → (v3 = allB v4 (fun a => !bt s a || dis (d a) s)) → (m - v4).toNat = fu → MW G mi_X12_isAntichain (rmd 2 0 0) (MZ G (PQ (some (0, B (anti m d s))) n K (M)) 0 0) (0, 0) 5 [(0, (1, 36)), (1, (0, o)), (2, (0, s)), (3, (0, B v3)), (4, (0, v4))] [] n K (M) := by
    intro fu
    induction fu using Nat.strongRecOn with
    | ind fu ih5 =>
      intro v3 v4 h1 h2 hk5
      refine x_iload (dtk dt_X12_isAntichain 4 (5, .iload 4, 2) rfl) rfl ?_
      refine x_aload_n (dtk dt_X12_isAntichain 5 (7, .aload_n 0, 1) rfl) rfl ?_
      refine fg_X12_13 rfl (dtk dt_X12_isAntichain 6 (8, .getfield 13, 3) rfl) (wk_36 hA.wf) (wm_36_2 hA.wf) ?_
      refine x_iload_n (dtk dt_X12_isAntichain 7 (11, .iload_n 1, 1) rfl) rfl ?_
      refine x_iald (dtk dt_X12_isAntichain 8 (12, .iaload, 1) rfl) (wk_38 hA.wf) ⟨by omega, by omega⟩ ?_
      rw [hA.sz]
      refine x_icmp_ge (tgt := 58) (dtk dt_X12_isAntichain 9 (13, .if_icmp .ge 45, 3) rfl) (by decide) (fun c13 => ?_) (fun c13 => ?_)
      · skip
        refine x_iload_n (dtk dt_X12_isAntichain 33 (58, .iload_n 3, 1) rfl) rfl ?_
        exact r_b (dtk dt_X12_isAntichain 34 (59, .ireturn, 1) rfl) rfl (by rw [h2, show v4 = m by omega]; rfl) rfl
      · skip
        refine x_iload_n (dtk dt_X12_isAntichain 10 (16, .iload_n 3, 1) rfl) rfl ?_
        refine x_if_eqB (tgt := 50) (dtk dt_X12_isAntichain 11 (17, .ifCond .eq 33, 3) rfl) (by decide) (fun c17 => ?_) (fun c17 => ?_)
        · skip
          refine x_iconst (v := 0) ⟨by decide, by decide⟩ (dtk dt_X12_isAntichain 29 (50, .iconst 0, 1) rfl) ?_
          refine x_istore_n (dtk dt_X12_isAntichain 30 (51, .istore_n 3, 1) rfl) (by decide) ?_
          refine y_iinc (dtk dt_X12_isAntichain 31 (52, .iinc 4 1, 3) rfl) rfl (by decide) ⟨by omega, by omega⟩ ?_
          refine x_goto (tgt := 5) (dtk dt_X12_isAntichain 32 (55, .goto (-50), 3) rfl) (by decide) ?_
          refine MW.sub [2, 3, 4, 1, 0] rfl ?_
          exact ih5 _ (by omega) false _ (by omega) (by clear ih5; rw [allB_s (by omega)]; simp_all [dis]) rfl
        · skip
          refine x_iload_n (dtk dt_X12_isAntichain 12 (20, .iload_n 2, 1) rfl) rfl ?_
          refine x_iload (dtk dt_X12_isAntichain 13 (21, .iload 4, 2) rfl) rfl ?_
          refine kc_X12_82 rfl (dtk dt_X12_isAntichain 14 (23, .invokestatic 82, 3) rfl) (c_X12_has (G := G)  (by omega) (by omega)) rfl rfl (fitR (by decide) (by decide)) (Nat.le_of_ble_eq_true rfl) (pqK ?_)
          refine x_if_eqB (tgt := 46) (dtk dt_X12_isAntichain 15 (26, .ifCond .eq 20, 3) rfl) (by decide) (fun c26 => ?_) (fun c26 => ?_)
          · skip
            refine x_iconst (v := 1) ⟨by decide, by decide⟩ (dtk dt_X12_isAntichain 27 (46, .iconst 1, 1) rfl) ?_
            refine x_goto (tgt := 51) (dtk dt_X12_isAntichain 28 (47, .goto 4, 3) rfl) (by decide) ?_
            refine x_istore_n (dtk dt_X12_isAntichain 30 (51, .istore_n 3, 1) rfl) (by decide) ?_
            refine y_iinc (dtk dt_X12_isAntichain 31 (52, .iinc 4 1, 3) rfl) rfl (by decide) ⟨by omega, by omega⟩ ?_
            refine x_goto (tgt := 5) (dtk dt_X12_isAntichain 32 (55, .goto (-50), 3) rfl) (by decide) ?_
            refine MW.sub [2, 3, 4, 1, 0] rfl ?_
            exact ih5 _ (by omega) true _ (by omega) (by clear ih5; rw [allB_s (by omega)]; simp_all [dis]) rfl
          · skip
            refine x_aload_n (dtk dt_X12_isAntichain 16 (29, .aload_n 0, 1) rfl) rfl ?_
            refine fg_X12_16 rfl (dtk dt_X12_isAntichain 17 (30, .getfield 16, 3) rfl) (wk_36 hA.wf) (wm_36_3 hA.wf) ?_
            refine x_bipush (v := 10) ⟨by decide, by decide⟩ (dtk dt_X12_isAntichain 18 (33, .bipush 10, 2) rfl) ?_
            refine x_iload_n (dtk dt_X12_isAntichain 19 (35, .iload_n 1, 1) rfl) rfl ?_
            refine y_imul (dtk dt_X12_isAntichain 20 (36, .imul, 1) rfl) ⟨by omega, by omega⟩ ?_
            refine x_iload (dtk dt_X12_isAntichain 21 (37, .iload 4, 2) rfl) rfl ?_
            refine y_iadd (dtk dt_X12_isAntichain 22 (39, .iadd, 1) rfl) ⟨by omega, by omega⟩ ?_
            refine x_iald (dtk dt_X12_isAntichain 23 (40, .iaload, 1) rfl) (wk_39 hA.wf) ⟨by omega, by omega⟩ ?_
            rw [hA.at]
            refine x_iload_n (dtk dt_X12_isAntichain 24 (41, .iload_n 2, 1) rfl) rfl ?_
            refine x_iand (dtk dt_X12_isAntichain 25 (42, .iand, 1) rfl) ?_
            refine x_if_ne (tgt := 50) (dtk dt_X12_isAntichain 26 (43, .ifCond .ne 7, 3) rfl) (by decide) (fun c43 => ?_) (fun c43 => ?_)
            · skip
              refine x_iconst (v := 0) ⟨by decide, by decide⟩ (dtk dt_X12_isAntichain 29 (50, .iconst 0, 1) rfl) ?_
              refine x_istore_n (dtk dt_X12_isAntichain 30 (51, .istore_n 3, 1) rfl) (by decide) ?_
              refine y_iinc (dtk dt_X12_isAntichain 31 (52, .iinc 4 1, 3) rfl) rfl (by decide) ⟨by omega, by omega⟩ ?_
              refine x_goto (tgt := 5) (dtk dt_X12_isAntichain 32 (55, .goto (-50), 3) rfl) (by decide) ?_
              refine MW.sub [2, 3, 4, 1, 0] rfl ?_
              exact ih5 _ (by omega) false _ (by omega) (by clear ih5; rw [allB_s (by omega)]; simp_all [dis]) rfl
            · skip
              refine x_iconst (v := 1) ⟨by decide, by decide⟩ (dtk dt_X12_isAntichain 27 (46, .iconst 1, 1) rfl) ?_
              refine x_goto (tgt := 51) (dtk dt_X12_isAntichain 28 (47, .goto 4, 3) rfl) (by decide) ?_
              refine x_istore_n (dtk dt_X12_isAntichain 30 (51, .istore_n 3, 1) rfl) (by decide) ?_
              refine y_iinc (dtk dt_X12_isAntichain 31 (52, .iinc 4 1, 3) rfl) rfl (by decide) ⟨by omega, by omega⟩ ?_
              refine x_goto (tgt := 5) (dtk dt_X12_isAntichain 32 (55, .goto (-50), 3) rfl) (by decide) ?_
              refine MW.sub [2, 3, 4, 1, 0] rfl ?_
              exact ih5 _ (by omega) true _ (by omega) (by clear ih5; rw [allB_s (by omega)]; simp_all [dis]) rfl
  refine MW.sub [2, 3, 4, 1, 0] rfl ?_
  exact L5 _ true _ (by omega) (by simp [allB_0]) rfl
set_option maxRecDepth 100000 in
set_option maxHeartbeats 4000000 in
theorem c_X12_isAhead {G : GG} {n : Nat} {K : KK} {M : MM} {s t : Int} (hs : nn s) (ht : nn t) : MC G mi_X12_isAhead 1 0 0 [(0, s), (0, t)] n K M (PQ (some (0, B (ahd s t))) n K (M)) := by
  refine MC.intro (lc := [(0, (0, s)), (1, (0, t))]) (by decide) rfl (by simp [Nat.ble]) (Nat.le_of_ble_eq_true rfl) rfl (fun hMR => ?_)
  have hx := nn_zxor hs ht
  refine x_iload_n (dtk dt_X12_isAhead 0 (0, .iload_n 0, 1) rfl) rfl ?_
  refine x_iload_n (dtk dt_X12_isAhead 1 (1, .iload_n 1, 1) rfl) rfl ?_
  refine x_ixor (dtk dt_X12_isAhead 2 (2, .ixor, 1) rfl) ?_
  refine x_istore_n (dtk dt_X12_isAhead 3 (3, .istore_n 2, 1) rfl) (by decide) ?_
  refine x_iload_n (dtk dt_X12_isAhead 4 (4, .iload_n 2, 1) rfl) rfl ?_
  refine x_iload_n (dtk dt_X12_isAhead 5 (5, .iload_n 2, 1) rfl) rfl ?_
  refine y_ineg (dtk dt_X12_isAhead 6 (6, .ineg, 1) rfl) ⟨by have := hx.2; omega, by have := hx.1; omega⟩ ?_
  refine x_iand (dtk dt_X12_isAhead 7 (7, .iand, 1) rfl) ?_
  refine x_iload_n (dtk dt_X12_isAhead 8 (8, .iload_n 0, 1) rfl) rfl ?_
  refine x_iand (dtk dt_X12_isAhead 9 (9, .iand, 1) rfl) ?_
  refine x_if_eq (tgt := 17) (dtk dt_X12_isAhead 10 (10, .ifCond .eq 7, 3) rfl) (by decide) (fun c10 => ?_) (fun c10 => ?_)
  · skip
    refine x_iconst (v := 0) ⟨by decide, by decide⟩ (dtk dt_X12_isAhead 13 (17, .iconst 0, 1) rfl) ?_
    exact r_b (b := false) (dtk dt_X12_isAhead 14 (18, .ireturn, 1) rfl) rfl (by unfold ahd; simp_all) rfl
  · skip
    refine x_iconst (v := 1) ⟨by decide, by decide⟩ (dtk dt_X12_isAhead 11 (13, .iconst 1, 1) rfl) ?_
    refine x_goto (tgt := 18) (dtk dt_X12_isAhead 12 (14, .goto 4, 3) rfl) (by decide) ?_
    exact r_b (b := true) (dtk dt_X12_isAhead 14 (18, .ireturn, 1) rfl) rfl (by unfold ahd; simp_all) rfl
set_option maxRecDepth 100000 in
set_option maxHeartbeats 4000000 in
theorem c_X12_widest0 {G : GG} {n : Nat} {K : KK} {M : MM} {o : Int} {m : Int} {d : Int → Int} (hA : AT K M o m d) : MC G mi_X12_widest0 3 0 0 [(1, 36), (0, o)] n K M (PQ (some (0, wide m d)) n K (M)) := by
  refine MC.intro (lc := [(0, (1, 36)), (1, (0, o))]) (by decide) rfl (by simp [Nat.ble]) (Nat.le_of_ble_eq_true rfl) rfl (fun hMR => ?_)
  have ho := hA.2.1
  have hsz := hA.ok.1
  have hp := p2_b hsz
  refine x_iconst (v := 0) ⟨by decide, by decide⟩ (dtk dt_X12_widest0 0 (0, .iconst 0, 1) rfl) ?_
  refine x_istore_n (dtk dt_X12_widest0 1 (1, .istore_n 2, 1) rfl) (by decide) ?_
  refine x_iconst (v := 0) ⟨by decide, by decide⟩ (dtk dt_X12_widest0 2 (2, .iconst 0, 1) rfl) ?_
  refine x_istore_n (dtk dt_X12_widest0 3 (3, .istore_n 3, 1) rfl) (by decide) ?_
  have L4 : ∀ (fu : Nat) (v2 : Int) (v3 : Int), (0 ≤ v3 ∧ v3 ≤ p2 m) → (v2 = foldZ v3 (wstep m d) 0) → (p2 m - v3).toNat = fu → MW G mi_X12_widest0 (rmd 3 0 0) (MZ G (PQ (some (0, wide m d)) n K (M)) 0 0) (0, 0) 4 [(0, (1, 36)), (1, (0, o)), (2, (0, v2)), (3, (0, v3))] [] n K (M) := by
    intro fu
    induction fu using Nat.strongRecOn with
    | ind fu ih4 =>
      intro v2 v3 h1 h2 hk4
      have hb := wide_b (d := d) hsz v3 h1.2
      rw [← h2] at hb
      have hn2 : nn v2 := ⟨by omega, by omega⟩
      have hn3 : v3 < 1024 → nn v3 := fun _ => ⟨by omega, by omega⟩
      refine x_iload_n (dtk dt_X12_widest0 4 (4, .iload_n 3, 1) rfl) rfl ?_
      refine x_iconst (v := 1) ⟨by decide, by decide⟩ (dtk dt_X12_widest0 5 (5, .iconst 1, 1) rfl) ?_
      refine x_aload_n (dtk dt_X12_widest0 6 (6, .aload_n 0, 1) rfl) rfl ?_
      refine fg_X12_13 rfl (dtk dt_X12_widest0 7 (7, .getfield 13, 3) rfl) (wk_36 hA.wf) (wm_36_2 hA.wf) ?_
      refine x_iload_n (dtk dt_X12_widest0 8 (10, .iload_n 1, 1) rfl) rfl ?_
      refine x_iald (dtk dt_X12_widest0 9 (11, .iaload, 1) rfl) (wk_38 hA.wf) ⟨by omega, by omega⟩ ?_
      rw [hA.sz]
      refine x_ishl (dtk dt_X12_widest0 10 (12, .ishl, 1) rfl) ?_
      change MW G _ _ _ _ _ _ ((0, p2 m) :: _) _ _ _
      refine x_icmp_ge (tgt := 66) (dtk dt_X12_widest0 11 (13, .if_icmp .ge 53, 3) rfl) (by decide) (fun c13 => ?_) (fun c13 => ?_)
      · skip
        refine x_iload_n (dtk dt_X12_widest0 37 (66, .iload_n 2, 1) rfl) rfl ?_
        exact r_i (dtk dt_X12_widest0 38 (67, .ireturn, 1) rfl) rfl (by rw [h2, show v3 = p2 m by omega]; rfl) rfl
      · skip
        replace hn3 := hn3 (by omega)
        have k2 := cnt_b v2
        have k3 := cnt_b v3
        refine x_aload_n (dtk dt_X12_widest0 12 (16, .aload_n 0, 1) rfl) rfl ?_
        refine x_iload_n (dtk dt_X12_widest0 13 (17, .iload_n 1, 1) rfl) rfl ?_
        refine x_iload_n (dtk dt_X12_widest0 14 (18, .iload_n 3, 1) rfl) rfl ?_
        refine kc_X12_170 rfl (dtk dt_X12_widest0 15 (19, .invokevirtual 170, 3) rfl) (c_X12_isAntichain (G := G)  hA hn3) rfl rfl (wk_36 hA.wf) (fitR (by decide) (by decide)) (Nat.le_of_ble_eq_true rfl) (pqK ?_)
        refine x_if_eqB (tgt := 60) (dtk dt_X12_widest0 16 (22, .ifCond .eq 38, 3) rfl) (by decide) (fun c22 => ?_) (fun c22 => ?_)
        · skip
          refine y_iinc (dtk dt_X12_widest0 35 (60, .iinc 3 1, 3) rfl) rfl (by decide) ⟨by omega, by omega⟩ ?_
          refine x_goto (tgt := 4) (dtk dt_X12_widest0 36 (63, .goto (-59), 3) rfl) (by decide) ?_
          refine MW.sub [1, 2, 3, 0] rfl ?_
          exact ih4 _ (by omega) _ _ (by omega) (by clear ih4; rw [foldZ_s (by omega), ← h2]; unfold wstep; split <;> simp_all <;> omega) rfl
        · skip
          refine x_iload_n (dtk dt_X12_widest0 17 (25, .iload_n 3, 1) rfl) rfl ?_
          refine kc_X12_133 rfl (dtk dt_X12_widest0 18 (26, .invokestatic 133, 3) rfl) (c_X12_bits (G := G)  hn3) rfl rfl (fitR (by decide) (by decide)) (Nat.le_of_ble_eq_true rfl) (pqK ?_)
          change MW G _ _ _ _ _ _ ((0, cnt v3) :: _) _ _ _
          refine x_iload_n (dtk dt_X12_widest0 19 (29, .iload_n 2, 1) rfl) rfl ?_
          refine kc_X12_133 rfl (dtk dt_X12_widest0 20 (30, .invokestatic 133, 3) rfl) (c_X12_bits (G := G)  hn2) rfl rfl (fitR (by decide) (by decide)) (Nat.le_of_ble_eq_true rfl) (pqK ?_)
          change MW G _ _ _ _ _ _ ((0, cnt v2) :: _) _ _ _
          refine y_isub (dtk dt_X12_widest0 21 (33, .isub, 1) rfl) ⟨by omega, by omega⟩ ?_
          refine x_istore (dtk dt_X12_widest0 22 (34, .istore 4, 2) rfl) (by decide) ?_
          refine x_iload (dtk dt_X12_widest0 23 (36, .iload 4, 2) rfl) rfl ?_
          refine x_if_gt (tgt := 54) (dtk dt_X12_widest0 24 (38, .ifCond .gt 16, 3) rfl) (by decide) (fun c38 => ?_) (fun c38 => ?_)
          · skip
            refine x_iload_n (dtk dt_X12_widest0 31 (54, .iload_n 3, 1) rfl) rfl ?_
            refine x_goto (tgt := 59) (dtk dt_X12_widest0 32 (55, .goto 4, 3) rfl) (by decide) ?_
            refine x_istore_n (dtk dt_X12_widest0 34 (59, .istore_n 2, 1) rfl) (by decide) ?_
            refine y_iinc (dtk dt_X12_widest0 35 (60, .iinc 3 1, 3) rfl) rfl (by decide) ⟨by omega, by omega⟩ ?_
            refine x_goto (tgt := 4) (dtk dt_X12_widest0 36 (63, .goto (-59), 3) rfl) (by decide) ?_
            refine MW.sub [3, 4, 1, 0] rfl ?_
            exact ih4 _ (by omega) _ _ (by omega) (by clear ih4; rw [foldZ_s (by omega), ← h2]; unfold wstep; split <;> simp_all <;> omega) rfl
          · skip
            refine x_iload (dtk dt_X12_widest0 25 (41, .iload 4, 2) rfl) rfl ?_
            refine x_if_ne (tgt := 58) (dtk dt_X12_widest0 26 (43, .ifCond .ne 15, 3) rfl) (by decide) (fun c43 => ?_) (fun c43 => ?_)
            · skip
              refine x_iload_n (dtk dt_X12_widest0 33 (58, .iload_n 2, 1) rfl) rfl ?_
              refine x_istore_n (dtk dt_X12_widest0 34 (59, .istore_n 2, 1) rfl) (by decide) ?_
              refine y_iinc (dtk dt_X12_widest0 35 (60, .iinc 3 1, 3) rfl) rfl (by decide) ⟨by omega, by omega⟩ ?_
              refine x_goto (tgt := 4) (dtk dt_X12_widest0 36 (63, .goto (-59), 3) rfl) (by decide) ?_
              refine MW.sub [3, 4, 1, 0] rfl ?_
              exact ih4 _ (by omega) _ _ (by omega) (by clear ih4; rw [foldZ_s (by omega), ← h2]; unfold wstep; split <;> simp_all <;> omega) rfl
            · skip
              refine x_iload_n (dtk dt_X12_widest0 27 (46, .iload_n 3, 1) rfl) rfl ?_
              refine x_iload_n (dtk dt_X12_widest0 28 (47, .iload_n 2, 1) rfl) rfl ?_
              refine kc_X12_173 rfl (dtk dt_X12_widest0 29 (48, .invokestatic 173, 3) rfl) (c_X12_isAhead (G := G)  hn3 hn2) rfl rfl (fitR (by decide) (by decide)) (Nat.le_of_ble_eq_true rfl) (pqK ?_)
              refine x_if_eqB (tgt := 58) (dtk dt_X12_widest0 30 (51, .ifCond .eq 7, 3) rfl) (by decide) (fun c51 => ?_) (fun c51 => ?_)
              · skip
                refine x_iload_n (dtk dt_X12_widest0 33 (58, .iload_n 2, 1) rfl) rfl ?_
                refine x_istore_n (dtk dt_X12_widest0 34 (59, .istore_n 2, 1) rfl) (by decide) ?_
                refine y_iinc (dtk dt_X12_widest0 35 (60, .iinc 3 1, 3) rfl) rfl (by decide) ⟨by omega, by omega⟩ ?_
                refine x_goto (tgt := 4) (dtk dt_X12_widest0 36 (63, .goto (-59), 3) rfl) (by decide) ?_
                refine MW.sub [3, 4, 1, 0] rfl ?_
                exact ih4 _ (by omega) _ _ (by omega) (by clear ih4; rw [foldZ_s (by omega), ← h2]; unfold wstep; split <;> simp_all <;> omega) rfl
              · skip
                refine x_iload_n (dtk dt_X12_widest0 31 (54, .iload_n 3, 1) rfl) rfl ?_
                refine x_goto (tgt := 59) (dtk dt_X12_widest0 32 (55, .goto 4, 3) rfl) (by decide) ?_
                refine x_istore_n (dtk dt_X12_widest0 34 (59, .istore_n 2, 1) rfl) (by decide) ?_
                refine y_iinc (dtk dt_X12_widest0 35 (60, .iinc 3 1, 3) rfl) rfl (by decide) ⟨by omega, by omega⟩ ?_
                refine x_goto (tgt := 4) (dtk dt_X12_widest0 36 (63, .goto (-59), 3) rfl) (by decide) ?_
                refine MW.sub [3, 4, 1, 0] rfl ?_
                exact ih4 _ (by omega) _ _ (by omega) (by clear ih4; rw [foldZ_s (by omega), ← h2]; unfold wstep; split <;> simp_all <;> omega) rfl
  refine MW.sub [2, 3, 1, 0] rfl ?_
  exact L4 _ _ _ (by omega) rfl rfl
set_option maxRecDepth 100000 in
set_option maxHeartbeats 4000000 in
theorem c_X12_lowSets {G : GG} {n : Nat} {K : KK} {M : MM} {o : Int} {m : Int} {d : Int → Int} (hA : AT K M o m d) : MC G mi_X12_lowSets 3 0 0 [(1, 36), (0, o)] n K M (PQ (some (0, lowN m d)) n K (M)) := by
  refine MC.intro (lc := [(0, (1, 36)), (1, (0, o))]) (by decide) rfl (by simp [Nat.ble]) (Nat.le_of_ble_eq_true rfl) rfl (fun hMR => ?_)
  have ho := hA.2.1
  have hsz := hA.ok.1
  have hp := p2_b hsz
  refine x_iconst (v := 0) ⟨by decide, by decide⟩ (dtk dt_X12_lowSets 0 (0, .iconst 0, 1) rfl) ?_
  refine x_istore_n (dtk dt_X12_lowSets 1 (1, .istore_n 2, 1) rfl) (by decide) ?_
  refine x_iconst (v := 0) ⟨by decide, by decide⟩ (dtk dt_X12_lowSets 2 (2, .iconst 0, 1) rfl) ?_
  refine x_istore_n (dtk dt_X12_lowSets 3 (3, .istore_n 3, 1) rfl) (by decide) ?_
  have L4 : ∀ (fu : Nat) (v2 : Int) (v3 : Int), (0 ≤ v3 ∧ v3 ≤ p2 m) → (v2 = sumZ v3 (fun s => B (low m d s))) → (p2 m - v3).toNat = fu → MW G mi_X12_lowSets (rmd 3 0 0) (MZ G (PQ (some (0, lowN m d)) n K (M)) 0 0) (0, 0) 4 [(0, (1, 36)), (1, (0, o)), (2, (0, v2)), (3, (0, v3))] [] n K (M) := by
    intro fu
    induction fu using Nat.strongRecOn with
    | ind fu ih4 =>
      intro v2 v3 h1 h2 hk4
      have hb := sumZ_b01 h1.1 (low m d)
      refine x_iload_n (dtk dt_X12_lowSets 4 (4, .iload_n 3, 1) rfl) rfl ?_
      refine x_iconst (v := 1) ⟨by decide, by decide⟩ (dtk dt_X12_lowSets 5 (5, .iconst 1, 1) rfl) ?_
      refine x_aload_n (dtk dt_X12_lowSets 6 (6, .aload_n 0, 1) rfl) rfl ?_
      refine fg_X12_13 rfl (dtk dt_X12_lowSets 7 (7, .getfield 13, 3) rfl) (wk_36 hA.wf) (wm_36_2 hA.wf) ?_
      refine x_iload_n (dtk dt_X12_lowSets 8 (10, .iload_n 1, 1) rfl) rfl ?_
      refine x_iald (dtk dt_X12_lowSets 9 (11, .iaload, 1) rfl) (wk_38 hA.wf) ⟨by omega, by omega⟩ ?_
      rw [hA.sz]
      refine x_ishl (dtk dt_X12_lowSets 10 (12, .ishl, 1) rfl) ?_
      change MW G _ _ _ _ _ _ ((0, p2 m) :: _) _ _ _
      refine x_icmp_ge (tgt := 39) (dtk dt_X12_lowSets 11 (13, .if_icmp .ge 26, 3) rfl) (by decide) (fun c13 => ?_) (fun c13 => ?_)
      · skip
        refine x_iload_n (dtk dt_X12_lowSets 25 (39, .iload_n 2, 1) rfl) rfl ?_
        exact r_i (dtk dt_X12_lowSets 26 (40, .ireturn, 1) rfl) rfl (by rw [h2, show v3 = p2 m by omega]; rfl) rfl
      · skip
        refine x_iload_n (dtk dt_X12_lowSets 12 (16, .iload_n 2, 1) rfl) rfl ?_
        refine x_aload_n (dtk dt_X12_lowSets 13 (17, .aload_n 0, 1) rfl) rfl ?_
        refine x_iload_n (dtk dt_X12_lowSets 14 (18, .iload_n 1, 1) rfl) rfl ?_
        refine x_iload_n (dtk dt_X12_lowSets 15 (19, .iload_n 3, 1) rfl) rfl ?_
        refine kc_X12_124 rfl (dtk dt_X12_lowSets 16 (20, .invokevirtual 124, 3) rfl) (c_X12_isLow (G := G)  hA ⟨by omega, by omega⟩) rfl rfl (wk_36 hA.wf) (fitR (by decide) (by decide)) (Nat.le_of_ble_eq_true rfl) (pqK ?_)
        refine x_if_eqB (tgt := 30) (dtk dt_X12_lowSets 17 (23, .ifCond .eq 7, 3) rfl) (by decide) (fun c23 => ?_) (fun c23 => ?_)
        · skip
          refine x_iconst (v := 0) ⟨by decide, by decide⟩ (dtk dt_X12_lowSets 20 (30, .iconst 0, 1) rfl) ?_
          refine y_iadd (dtk dt_X12_lowSets 21 (31, .iadd, 1) rfl) ⟨by omega, by omega⟩ ?_
          refine x_istore_n (dtk dt_X12_lowSets 22 (32, .istore_n 2, 1) rfl) (by decide) ?_
          refine y_iinc (dtk dt_X12_lowSets 23 (33, .iinc 3 1, 3) rfl) rfl (by decide) ⟨by omega, by omega⟩ ?_
          refine x_goto (tgt := 4) (dtk dt_X12_lowSets 24 (36, .goto (-32), 3) rfl) (by decide) ?_
          refine MW.sub [2, 3, 1, 0] rfl ?_
          exact ih4 _ (by omega) _ _ (by omega) (by clear ih4; rw [sumZ_s (by omega), ← h2]; simp_all [B]) rfl
        · skip
          refine x_iconst (v := 1) ⟨by decide, by decide⟩ (dtk dt_X12_lowSets 18 (26, .iconst 1, 1) rfl) ?_
          refine x_goto (tgt := 31) (dtk dt_X12_lowSets 19 (27, .goto 4, 3) rfl) (by decide) ?_
          refine y_iadd (dtk dt_X12_lowSets 21 (31, .iadd, 1) rfl) ⟨by omega, by omega⟩ ?_
          refine x_istore_n (dtk dt_X12_lowSets 22 (32, .istore_n 2, 1) rfl) (by decide) ?_
          refine y_iinc (dtk dt_X12_lowSets 23 (33, .iinc 3 1, 3) rfl) rfl (by decide) ⟨by omega, by omega⟩ ?_
          refine x_goto (tgt := 4) (dtk dt_X12_lowSets 24 (36, .goto (-32), 3) rfl) (by decide) ?_
          refine MW.sub [2, 3, 1, 0] rfl ?_
          exact ih4 _ (by omega) _ _ (by omega) (by clear ih4; rw [sumZ_s (by omega), ← h2]; simp_all [B]) rfl
  refine MW.sub [2, 3, 1, 0] rfl ?_
  exact L4 _ _ _ (by omega) rfl rfl
set_option maxRecDepth 100000 in
set_option maxHeartbeats 4000000 in
theorem c_X12_lowSet {G : GG} {n : Nat} {K : KK} {M : MM} {o i : Int} {m : Int} {d : Int → Int} (hA : AT K M o m d) : MC G mi_X12_lowSet 3 0 0 [(1, 36), (0, o), (0, i)] n K M (PQ (some (0, lowI m d i)) n K (M)) := by
  refine MC.intro (lc := [(0, (1, 36)), (1, (0, o)), (2, (0, i))]) (by decide) rfl (by simp [Nat.ble]) (Nat.le_of_ble_eq_true rfl) rfl (fun hMR => ?_)
  have ho := hA.2.1
  have hsz := hA.ok.1
  have hp := p2_b hsz
  refine MW.fact (fun _ hq _ => ?_)
  have hiR : inR i := hq (2, 0, i) (by simp)
  refine x_iload_n (dtk dt_X12_lowSet 0 (0, .iload_n 2, 1) rfl) rfl ?_
  refine x_istore_n (dtk dt_X12_lowSet 1 (1, .istore_n 3, 1) rfl) (by decide) ?_
  refine x_iconst (v := 0) ⟨by decide, by decide⟩ (dtk dt_X12_lowSet 2 (2, .iconst 0, 1) rfl) ?_
  refine x_istore (dtk dt_X12_lowSet 3 (3, .istore 4, 2) rfl) (by decide) ?_
  have L5 : ∀ (fu : Nat) (v3 : Int) (v4 : Int), (0 ≤ v4 ∧ v4 ≤ p2 m) → (nth (p2 m) (low m d) v4 v3 = lowI m d i) → (inR v3) → (p2 m - v4).toNat = fu → MW G mi_X12_lowSet (rmd 3 0 0) (MZ G (PQ (some (0, lowI m d i)) n K (M)) 0 0) (0, 0) 5 [(0, (1, 36)), (1, (0, o)), (2, (0, i)), (3, (0, v3)), (4, (0, v4))] [] n K (M) := by
    intro fu
    induction fu using Nat.strongRecOn with
    | ind fu ih5 =>
      intro v3 v4 h1 h2 h3 hk5
      refine x_iload (dtk dt_X12_lowSet 4 (5, .iload 4, 2) rfl) rfl ?_
      refine x_iconst (v := 1) ⟨by decide, by decide⟩ (dtk dt_X12_lowSet 5 (7, .iconst 1, 1) rfl) ?_
      refine x_aload_n (dtk dt_X12_lowSet 6 (8, .aload_n 0, 1) rfl) rfl ?_
      refine fg_X12_13 rfl (dtk dt_X12_lowSet 7 (9, .getfield 13, 3) rfl) (wk_36 hA.wf) (wm_36_2 hA.wf) ?_
      refine x_iload_n (dtk dt_X12_lowSet 8 (12, .iload_n 1, 1) rfl) rfl ?_
      refine x_iald (dtk dt_X12_lowSet 9 (13, .iaload, 1) rfl) (wk_38 hA.wf) ⟨by omega, by omega⟩ ?_
      rw [hA.sz]
      refine x_ishl (dtk dt_X12_lowSet 10 (14, .ishl, 1) rfl) ?_
      change MW G _ _ _ _ _ _ ((0, p2 m) :: _) _ _ _
      refine x_icmp_ge (tgt := 48) (dtk dt_X12_lowSet 11 (15, .if_icmp .ge 33, 3) rfl) (by decide) (fun c15 => ?_) (fun c15 => ?_)
      · skip
        refine x_iconst (v := -1) ⟨by decide, by decide⟩ (dtk dt_X12_lowSet 26 (48, .iconst (-1), 1) rfl) ?_
        exact r_i (dtk dt_X12_lowSet 27 (49, .ireturn, 1) rfl) rfl (by first | (rw [nth_e (by omega)] at h2; exact h2) | (by_cases hq : v4 < p2 m; (rw [nth_s hq, if_pos (by assumption)] at h2; exact h2); (rw [nth_e (by omega)] at h2; exact h2))) rfl
      · skip
        refine x_iload_n (dtk dt_X12_lowSet 12 (18, .iload_n 3, 1) rfl) rfl ?_
        refine x_if_lt (tgt := 48) (dtk dt_X12_lowSet 13 (19, .ifCond .lt 29, 3) rfl) (by decide) (fun c19 => ?_) (fun c19 => ?_)
        · skip
          refine x_iconst (v := -1) ⟨by decide, by decide⟩ (dtk dt_X12_lowSet 26 (48, .iconst (-1), 1) rfl) ?_
          exact r_i (dtk dt_X12_lowSet 27 (49, .ireturn, 1) rfl) rfl (by first | (rw [nth_e (by omega)] at h2; exact h2) | (by_cases hq : v4 < p2 m; (rw [nth_s hq, if_pos (by assumption)] at h2; exact h2); (rw [nth_e (by omega)] at h2; exact h2))) rfl
        · skip
          refine x_aload_n (dtk dt_X12_lowSet 14 (22, .aload_n 0, 1) rfl) rfl ?_
          refine x_iload_n (dtk dt_X12_lowSet 15 (23, .iload_n 1, 1) rfl) rfl ?_
          refine x_iload (dtk dt_X12_lowSet 16 (24, .iload 4, 2) rfl) rfl ?_
          refine kc_X12_124 rfl (dtk dt_X12_lowSet 17 (26, .invokevirtual 124, 3) rfl) (c_X12_isLow (G := G)  hA ⟨by omega, by omega⟩) rfl rfl (wk_36 hA.wf) (fitR (by decide) (by decide)) (Nat.le_of_ble_eq_true rfl) (pqK ?_)
          refine x_if_eqB (tgt := 42) (dtk dt_X12_lowSet 18 (29, .ifCond .eq 13, 3) rfl) (by decide) (fun c29 => ?_) (fun c29 => ?_)
          · skip
            refine y_iinc (dtk dt_X12_lowSet 24 (42, .iinc 4 1, 3) rfl) rfl (by decide) ⟨by omega, by omega⟩ ?_
            refine x_goto (tgt := 5) (dtk dt_X12_lowSet 25 (45, .goto (-40), 3) rfl) (by decide) ?_
            refine MW.sub [1, 2, 3, 4, 0] rfl ?_
            exact ih5 _ (by omega) _ _ (by omega) (by clear ih5; rw [nth_s (by omega)] at h2; simp_all) (by first | exact h3 | exact ⟨by omega, by have := h3.2; omega⟩) rfl
          · skip
            refine x_iload_n (dtk dt_X12_lowSet 19 (32, .iload_n 3, 1) rfl) rfl ?_
            refine x_if_ne (tgt := 39) (dtk dt_X12_lowSet 20 (33, .ifCond .ne 6, 3) rfl) (by decide) (fun c33 => ?_) (fun c33 => ?_)
            · skip
              refine y_iinc (dtk dt_X12_lowSet 23 (39, .iinc 3 (-1), 3) rfl) rfl (by decide) ⟨by omega, by have := h3.2; omega⟩ ?_
              refine y_iinc (dtk dt_X12_lowSet 24 (42, .iinc 4 1, 3) rfl) rfl (by decide) ⟨by omega, by omega⟩ ?_
              refine x_goto (tgt := 5) (dtk dt_X12_lowSet 25 (45, .goto (-40), 3) rfl) (by decide) ?_
              refine MW.sub [2, 3, 4, 1, 0] rfl ?_
              exact ih5 _ (by omega) _ _ (by omega) (by clear ih5; rw [nth_s (by omega)] at h2; simp_all) (by first | exact h3 | exact ⟨by omega, by have := h3.2; omega⟩) rfl
            · skip
              refine x_iload (dtk dt_X12_lowSet 21 (36, .iload 4, 2) rfl) rfl ?_
              exact r_i (dtk dt_X12_lowSet 22 (38, .ireturn, 1) rfl) rfl (by clear ih5; rw [nth_s (by omega)] at h2; simp_all) rfl
  refine MW.sub [2, 3, 4, 1, 0] rfl ?_
  exact L5 _ _ _ (by omega) rfl hiR rfl
set_option maxRecDepth 100000 in
set_option maxHeartbeats 4000000 in
theorem c_X12_layer {G : GG} {n : Nat} {K : KK} {M : MM} {o a : Int} {m : Int} {d : Int → Int} (hA : AT K M o m d) (ha : 0 ≤ a ∧ a < 10) : MC G mi_X12_layer 4 0 0 [(1, 36), (0, o), (0, a)] n K M (PQ (some (0, lay m d a)) n K (M)) := by
  refine MC.intro (lc := [(0, (1, 36)), (1, (0, o)), (2, (0, a))]) (by decide) rfl (by simp [Nat.ble]) (Nat.le_of_ble_eq_true rfl) rfl (fun hMR => ?_)
  have ho := hA.2.1
  have hsz := hA.ok.1
  have hp := p2_b hsz
  refine x_iconst (v := 0) ⟨by decide, by decide⟩ (dtk dt_X12_layer 0 (0, .iconst 0, 1) rfl) ?_
  refine x_istore_n (dtk dt_X12_layer 1 (1, .istore_n 3, 1) rfl) (by decide) ?_
  refine x_iconst (v := 0) ⟨by decide, by decide⟩ (dtk dt_X12_layer 2 (2, .iconst 0, 1) rfl) ?_
  refine x_istore (dtk dt_X12_layer 3 (3, .istore 4, 2) rfl) (by decide) ?_
  have L5 : ∀ (fu : Nat) (v3 : Int) (v4 : Int), (0 ≤ v4 ∧ v4 ≤ p2 m) → (v3 = foldZ v4 (fun b s => if chn m d (d a) s && decide (b < cnt s) then cnt s else b) 0) → (p2 m - v4).toNat = fu → MW G mi_X12_layer (rmd 4 0 0) (MZ G (PQ (some (0, lay m d a)) n K (M)) 0 0) (0, 0) 5 [(0, (1, 36)), (1, (0, o)), (2, (0, a)), (3, (0, v3)), (4, (0, v4))] [] n K (M) := by
    intro fu
    induction fu using Nat.strongRecOn with
    | ind fu ih5 =>
      intro v3 v4 h1 h2 hk5
      have hb := lay_b (m := m) (d := d) (a := a) v4
      rw [← h2] at hb
      refine x_iload (dtk dt_X12_layer 4 (5, .iload 4, 2) rfl) rfl ?_
      refine x_iconst (v := 1) ⟨by decide, by decide⟩ (dtk dt_X12_layer 5 (7, .iconst 1, 1) rfl) ?_
      refine x_aload_n (dtk dt_X12_layer 6 (8, .aload_n 0, 1) rfl) rfl ?_
      refine fg_X12_13 rfl (dtk dt_X12_layer 7 (9, .getfield 13, 3) rfl) (wk_36 hA.wf) (wm_36_2 hA.wf) ?_
      refine x_iload_n (dtk dt_X12_layer 8 (12, .iload_n 1, 1) rfl) rfl ?_
      refine x_iald (dtk dt_X12_layer 9 (13, .iaload, 1) rfl) (wk_38 hA.wf) ⟨by omega, by omega⟩ ?_
      rw [hA.sz]
      refine x_ishl (dtk dt_X12_layer 10 (14, .ishl, 1) rfl) ?_
      change MW G _ _ _ _ _ _ ((0, p2 m) :: _) _ _ _
      refine x_icmp_ge (tgt := 161) (dtk dt_X12_layer 11 (15, .if_icmp .ge 146, 3) rfl) (by decide) (fun c15 => ?_) (fun c15 => ?_)
      · skip
        refine x_iload_n (dtk dt_X12_layer 84 (161, .iload_n 3, 1) rfl) rfl ?_
        exact r_i (dtk dt_X12_layer 85 (162, .ireturn, 1) rfl) rfl (by rw [h2, show v4 = p2 m by omega]; rfl) rfl
      · skip
        have hn4 : nn v4 := ⟨by omega, by omega⟩
        have k3 := cnt_b v4
        have J42_8 : ∀ (j5 : Bool), (j5 = sub v4 (d a)) → MW G mi_X12_layer (rmd 4 0 0) (MZ G (PQ (some (0, lay m d a)) n K (M)) 0 0) (0, 0) 42 [(0, (1, 36)), (1, (0, o)), (2, (0, a)), (3, (0, v3)), (4, (0, v4))] [(0, B j5)] n K (M) := by
          intro j5 hJ
          refine x_istore (dtk dt_X12_layer 28 (42, .istore 5, 2) rfl) (by decide) ?_
          refine x_iconst (v := 0) ⟨by decide, by decide⟩ (dtk dt_X12_layer 29 (44, .iconst 0, 1) rfl) ?_
          refine x_istore (dtk dt_X12_layer 30 (45, .istore 6, 2) rfl) (by decide) ?_
          have L47 : ∀ (fu : Nat) (v5 : Bool) (v6 : Int), (0 ≤ v6 ∧ v6 ≤ m) → (v5 = (sub v4 (d a) && allB v6 (fun c => allB m (fun e => decide (e ≤ c) || !(bt v4 c && bt v4 e && apr d c e))))) → (m - v6).toNat = fu → MW G mi_X12_layer (rmd 4 0 0) (MZ G (PQ (some (0, lay m d a)) n K (M)) 0 0) (0, 0) 47 [(0, (1, 36)), (1, (0, o)), (2, (0, a)), (3, (0, v3)), (4, (0, v4)), (5, (0, B v5)), (6, (0, v6))] [] n K (M) := by
            intro fu
            induction fu using Nat.strongRecOn with
            | ind fu ih47 =>
              intro v5 v6 h3 h4 hk47
              refine x_iload (dtk dt_X12_layer 31 (47, .iload 6, 2) rfl) rfl ?_
              refine x_aload_n (dtk dt_X12_layer 32 (49, .aload_n 0, 1) rfl) rfl ?_
              refine fg_X12_13 rfl (dtk dt_X12_layer 33 (50, .getfield 13, 3) rfl) (wk_36 hA.wf) (wm_36_2 hA.wf) ?_
              refine x_iload_n (dtk dt_X12_layer 34 (53, .iload_n 1, 1) rfl) rfl ?_
              refine x_iald (dtk dt_X12_layer 35 (54, .iaload, 1) rfl) (wk_38 hA.wf) ⟨by omega, by omega⟩ ?_
              rw [hA.sz]
              refine x_icmp_ge (tgt := 131) (dtk dt_X12_layer 36 (55, .if_icmp .ge 76, 3) rfl) (by decide) (fun c55 => ?_) (fun c55 => ?_)
              · skip
                have hch : v5 = chn m d (d a) v4 := by rw [h4, show v6 = m by omega]; rfl
                refine x_iload (dtk dt_X12_layer 71 (131, .iload 5, 2) rfl) rfl ?_
                refine x_if_eqB (tgt := 153) (dtk dt_X12_layer 72 (133, .ifCond .eq 20, 3) rfl) (by decide) (fun c133 => ?_) (fun c133 => ?_)
                · skip
                  refine x_iload_n (dtk dt_X12_layer 80 (153, .iload_n 3, 1) rfl) rfl ?_
                  refine x_istore_n (dtk dt_X12_layer 81 (154, .istore_n 3, 1) rfl) (by decide) ?_
                  refine y_iinc (dtk dt_X12_layer 82 (155, .iinc 4 1, 3) rfl) rfl (by decide) ⟨by omega, by omega⟩ ?_
                  refine x_goto (tgt := 5) (dtk dt_X12_layer 83 (158, .goto (-153), 3) rfl) (by decide) ?_
                  refine MW.sub [2, 3, 4, 1, 0] rfl ?_
                  exact ih5 _ (by omega) _ _ (by omega) (by clear ih5 ih47; rw [foldZ_s (by omega), ← h2]; simp_all <;> try omega) rfl
                · skip
                  refine x_iload (dtk dt_X12_layer 73 (136, .iload 4, 2) rfl) rfl ?_
                  refine kc_X12_133 rfl (dtk dt_X12_layer 74 (138, .invokestatic 133, 3) rfl) (c_X12_bits (G := G)  hn4) rfl rfl (fitR (by decide) (by decide)) (Nat.le_of_ble_eq_true rfl) (pqK ?_)
                  change MW G _ _ _ _ _ _ ((0, cnt v4) :: _) _ _ _
                  refine x_iload_n (dtk dt_X12_layer 75 (141, .iload_n 3, 1) rfl) rfl ?_
                  refine x_icmp_le (tgt := 153) (dtk dt_X12_layer 76 (142, .if_icmp .le 11, 3) rfl) (by decide) (fun c142 => ?_) (fun c142 => ?_)
                  · skip
                    refine x_iload_n (dtk dt_X12_layer 80 (153, .iload_n 3, 1) rfl) rfl ?_
                    refine x_istore_n (dtk dt_X12_layer 81 (154, .istore_n 3, 1) rfl) (by decide) ?_
                    refine y_iinc (dtk dt_X12_layer 82 (155, .iinc 4 1, 3) rfl) rfl (by decide) ⟨by omega, by omega⟩ ?_
                    refine x_goto (tgt := 5) (dtk dt_X12_layer 83 (158, .goto (-153), 3) rfl) (by decide) ?_
                    refine MW.sub [2, 3, 4, 1, 0] rfl ?_
                    exact ih5 _ (by omega) _ _ (by omega) (by clear ih5 ih47; rw [foldZ_s (by omega), ← h2]; simp_all <;> try omega) rfl
                  · skip
                    refine x_iload (dtk dt_X12_layer 77 (145, .iload 4, 2) rfl) rfl ?_
                    refine kc_X12_133 rfl (dtk dt_X12_layer 78 (147, .invokestatic 133, 3) rfl) (c_X12_bits (G := G)  hn4) rfl rfl (fitR (by decide) (by decide)) (Nat.le_of_ble_eq_true rfl) (pqK ?_)
                    change MW G _ _ _ _ _ _ ((0, cnt v4) :: _) _ _ _
                    refine x_goto (tgt := 154) (dtk dt_X12_layer 79 (150, .goto 4, 3) rfl) (by decide) ?_
                    refine x_istore_n (dtk dt_X12_layer 81 (154, .istore_n 3, 1) rfl) (by decide) ?_
                    refine y_iinc (dtk dt_X12_layer 82 (155, .iinc 4 1, 3) rfl) rfl (by decide) ⟨by omega, by omega⟩ ?_
                    refine x_goto (tgt := 5) (dtk dt_X12_layer 83 (158, .goto (-153), 3) rfl) (by decide) ?_
                    refine MW.sub [2, 3, 4, 1, 0] rfl ?_
                    exact ih5 _ (by omega) _ _ (by omega) (by clear ih5 ih47; rw [foldZ_s (by omega), ← h2]; simp_all <;> try omega) rfl
              · skip
                refine x_iload (dtk dt_X12_layer 37 (58, .iload 6, 2) rfl) rfl ?_
                refine x_iconst (v := 1) ⟨by decide, by decide⟩ (dtk dt_X12_layer 38 (60, .iconst 1, 1) rfl) ?_
                refine y_iadd (dtk dt_X12_layer 39 (61, .iadd, 1) rfl) ⟨by omega, by omega⟩ ?_
                refine x_istore (dtk dt_X12_layer 40 (62, .istore 7, 2) rfl) (by decide) ?_
                have L64 : ∀ (fu : Nat) (w5 : Bool) (v7 : Int), (v6 < v7 ∧ v7 ≤ m) → (w5 = (v5 && allB v7 (fun e => decide (e ≤ v6) || !(bt v4 v6 && bt v4 e && apr d v6 e)))) → (m - v7).toNat = fu → MW G mi_X12_layer (rmd 4 0 0) (MZ G (PQ (some (0, lay m d a)) n K (M)) 0 0) (0, 0) 64 [(0, (1, 36)), (1, (0, o)), (2, (0, a)), (3, (0, v3)), (4, (0, v4)), (5, (0, B w5)), (6, (0, v6)), (7, (0, v7))] [] n K (M) := by
                  intro fu
                  induction fu using Nat.strongRecOn with
                  | ind fu ih64 =>
                    intro w5 v7 h5 h6 hk64
                    refine x_iload (dtk dt_X12_layer 41 (64, .iload 7, 2) rfl) rfl ?_
                    refine x_aload_n (dtk dt_X12_layer 42 (66, .aload_n 0, 1) rfl) rfl ?_
                    refine fg_X12_13 rfl (dtk dt_X12_layer 43 (67, .getfield 13, 3) rfl) (wk_36 hA.wf) (wm_36_2 hA.wf) ?_
                    refine x_iload_n (dtk dt_X12_layer 44 (70, .iload_n 1, 1) rfl) rfl ?_
                    refine x_iald (dtk dt_X12_layer 45 (71, .iaload, 1) rfl) (wk_38 hA.wf) ⟨by omega, by omega⟩ ?_
                    rw [hA.sz]
                    refine x_icmp_ge (tgt := 125) (dtk dt_X12_layer 46 (72, .if_icmp .ge 53, 3) rfl) (by decide) (fun c72 => ?_) (fun c72 => ?_)
                    · skip
                      refine y_iinc (dtk dt_X12_layer 69 (125, .iinc 6 1, 3) rfl) rfl (by decide) ⟨by omega, by omega⟩ ?_
                      refine x_goto (tgt := 47) (dtk dt_X12_layer 70 (128, .goto (-81), 3) rfl) (by decide) ?_
                      refine MW.sub [1, 2, 3, 4, 5, 6, 0] rfl ?_
                      exact ih47 _ (by omega) _ _ (by omega) (by rw [h6, allB_s (by omega), ← Bool.and_assoc, ← h4, show v7 = m by omega]) rfl
                    · skip
                      refine x_iload (dtk dt_X12_layer 47 (75, .iload 5, 2) rfl) rfl ?_
                      refine x_if_eqB (tgt := 116) (dtk dt_X12_layer 48 (77, .ifCond .eq 39, 3) rfl) (by decide) (fun c77 => ?_) (fun c77 => ?_)
                      · skip
                        refine x_iconst (v := 0) ⟨by decide, by decide⟩ (dtk dt_X12_layer 65 (116, .iconst 0, 1) rfl) ?_
                        refine x_istore (dtk dt_X12_layer 66 (117, .istore 5, 2) rfl) (by decide) ?_
                        refine y_iinc (dtk dt_X12_layer 67 (119, .iinc 7 1, 3) rfl) rfl (by decide) ⟨by omega, by omega⟩ ?_
                        refine x_goto (tgt := 64) (dtk dt_X12_layer 68 (122, .goto (-58), 3) rfl) (by decide) ?_
                        refine MW.sub [2, 3, 4, 5, 6, 1, 7, 0] rfl ?_
                        exact ih64 _ (by omega) false _ (by omega) (by clear ih5 ih47 ih64; rw [allB_s (by omega)]; have : ¬ v7 ≤ v6 := (by omega); simp_all) rfl
                      · skip
                        refine x_iload (dtk dt_X12_layer 49 (80, .iload 4, 2) rfl) rfl ?_
                        refine x_iload (dtk dt_X12_layer 50 (82, .iload 6, 2) rfl) rfl ?_
                        refine kc_X12_82 rfl (dtk dt_X12_layer 51 (84, .invokestatic 82, 3) rfl) (c_X12_has (G := G)  hn4 (by omega)) rfl rfl (fitR (by decide) (by decide)) (Nat.le_of_ble_eq_true rfl) (pqK ?_)
                        refine x_if_eqB (tgt := 112) (dtk dt_X12_layer 52 (87, .ifCond .eq 25, 3) rfl) (by decide) (fun c87 => ?_) (fun c87 => ?_)
                        · skip
                          refine x_iconst (v := 1) ⟨by decide, by decide⟩ (dtk dt_X12_layer 63 (112, .iconst 1, 1) rfl) ?_
                          refine x_goto (tgt := 117) (dtk dt_X12_layer 64 (113, .goto 4, 3) rfl) (by decide) ?_
                          refine x_istore (dtk dt_X12_layer 66 (117, .istore 5, 2) rfl) (by decide) ?_
                          refine y_iinc (dtk dt_X12_layer 67 (119, .iinc 7 1, 3) rfl) rfl (by decide) ⟨by omega, by omega⟩ ?_
                          refine x_goto (tgt := 64) (dtk dt_X12_layer 68 (122, .goto (-58), 3) rfl) (by decide) ?_
                          refine MW.sub [2, 3, 4, 5, 6, 1, 7, 0] rfl ?_
                          exact ih64 _ (by omega) true _ (by omega) (by clear ih5 ih47 ih64; rw [allB_s (by omega)]; have : ¬ v7 ≤ v6 := (by omega); simp_all) rfl
                        · skip
                          refine x_iload (dtk dt_X12_layer 53 (90, .iload 4, 2) rfl) rfl ?_
                          refine x_iload (dtk dt_X12_layer 54 (92, .iload 7, 2) rfl) rfl ?_
                          refine kc_X12_82 rfl (dtk dt_X12_layer 55 (94, .invokestatic 82, 3) rfl) (c_X12_has (G := G)  hn4 (by omega)) rfl rfl (fitR (by decide) (by decide)) (Nat.le_of_ble_eq_true rfl) (pqK ?_)
                          refine x_if_eqB (tgt := 112) (dtk dt_X12_layer 56 (97, .ifCond .eq 15, 3) rfl) (by decide) (fun c97 => ?_) (fun c97 => ?_)
                          · skip
                            refine x_iconst (v := 1) ⟨by decide, by decide⟩ (dtk dt_X12_layer 63 (112, .iconst 1, 1) rfl) ?_
                            refine x_goto (tgt := 117) (dtk dt_X12_layer 64 (113, .goto 4, 3) rfl) (by decide) ?_
                            refine x_istore (dtk dt_X12_layer 66 (117, .istore 5, 2) rfl) (by decide) ?_
                            refine y_iinc (dtk dt_X12_layer 67 (119, .iinc 7 1, 3) rfl) rfl (by decide) ⟨by omega, by omega⟩ ?_
                            refine x_goto (tgt := 64) (dtk dt_X12_layer 68 (122, .goto (-58), 3) rfl) (by decide) ?_
                            refine MW.sub [2, 3, 4, 5, 6, 1, 7, 0] rfl ?_
                            exact ih64 _ (by omega) true _ (by omega) (by clear ih5 ih47 ih64; rw [allB_s (by omega)]; have : ¬ v7 ≤ v6 := (by omega); simp_all) rfl
                          · skip
                            refine x_aload_n (dtk dt_X12_layer 57 (100, .aload_n 0, 1) rfl) rfl ?_
                            refine x_iload_n (dtk dt_X12_layer 58 (101, .iload_n 1, 1) rfl) rfl ?_
                            refine x_iload (dtk dt_X12_layer 59 (102, .iload 6, 2) rfl) rfl ?_
                            refine x_iload (dtk dt_X12_layer 60 (104, .iload 7, 2) rfl) rfl ?_
                            refine kc_X12_157 rfl (dtk dt_X12_layer 61 (106, .invokevirtual 157, 3) rfl) (c_X12_isApart (G := G)  hA (by omega) (by omega)) rfl rfl (wk_36 hA.wf) (fitR (by decide) (by decide)) (Nat.le_of_ble_eq_true rfl) (pqK ?_)
                            refine x_if_neB (tgt := 116) (dtk dt_X12_layer 62 (109, .ifCond .ne 7, 3) rfl) (by decide) (fun c109 => ?_) (fun c109 => ?_)
                            · skip
                              refine x_iconst (v := 0) ⟨by decide, by decide⟩ (dtk dt_X12_layer 65 (116, .iconst 0, 1) rfl) ?_
                              refine x_istore (dtk dt_X12_layer 66 (117, .istore 5, 2) rfl) (by decide) ?_
                              refine y_iinc (dtk dt_X12_layer 67 (119, .iinc 7 1, 3) rfl) rfl (by decide) ⟨by omega, by omega⟩ ?_
                              refine x_goto (tgt := 64) (dtk dt_X12_layer 68 (122, .goto (-58), 3) rfl) (by decide) ?_
                              refine MW.sub [2, 3, 4, 5, 6, 1, 7, 0] rfl ?_
                              exact ih64 _ (by omega) false _ (by omega) (by clear ih5 ih47 ih64; rw [allB_s (by omega)]; have : ¬ v7 ≤ v6 := (by omega); simp_all) rfl
                            · skip
                              refine x_iconst (v := 1) ⟨by decide, by decide⟩ (dtk dt_X12_layer 63 (112, .iconst 1, 1) rfl) ?_
                              refine x_goto (tgt := 117) (dtk dt_X12_layer 64 (113, .goto 4, 3) rfl) (by decide) ?_
                              refine x_istore (dtk dt_X12_layer 66 (117, .istore 5, 2) rfl) (by decide) ?_
                              refine y_iinc (dtk dt_X12_layer 67 (119, .iinc 7 1, 3) rfl) rfl (by decide) ⟨by omega, by omega⟩ ?_
                              refine x_goto (tgt := 64) (dtk dt_X12_layer 68 (122, .goto (-58), 3) rfl) (by decide) ?_
                              refine MW.sub [2, 3, 4, 5, 6, 1, 7, 0] rfl ?_
                              exact ih64 _ (by omega) true _ (by omega) (by clear ih5 ih47 ih64; rw [allB_s (by omega)]; have : ¬ v7 ≤ v6 := (by omega); simp_all) rfl
                refine MW.sub [1, 2, 3, 4, 5, 6, 7, 0] rfl ?_
                exact L64 _ _ _ (by omega) (by rw [allB_low (c := 0) (fun e h0 h1 => by simp; left; omega), Bool.and_true]) rfl
          refine MW.sub [2, 3, 4, 5, 6, 1, 0] rfl ?_
          exact L47 _ _ _ (by omega) (by rw [hJ, allB_0, Bool.and_true]) rfl
        refine x_iload (dtk dt_X12_layer 12 (18, .iload 4, 2) rfl) rfl ?_
        refine x_aload_n (dtk dt_X12_layer 13 (20, .aload_n 0, 1) rfl) rfl ?_
        refine fg_X12_16 rfl (dtk dt_X12_layer 14 (21, .getfield 16, 3) rfl) (wk_36 hA.wf) (wm_36_3 hA.wf) ?_
        refine x_bipush (v := 10) ⟨by decide, by decide⟩ (dtk dt_X12_layer 15 (24, .bipush 10, 2) rfl) ?_
        refine x_iload_n (dtk dt_X12_layer 16 (26, .iload_n 1, 1) rfl) rfl ?_
        refine y_imul (dtk dt_X12_layer 17 (27, .imul, 1) rfl) ⟨by omega, by omega⟩ ?_
        refine x_iload_n (dtk dt_X12_layer 18 (28, .iload_n 2, 1) rfl) rfl ?_
        refine y_iadd (dtk dt_X12_layer 19 (29, .iadd, 1) rfl) ⟨by omega, by omega⟩ ?_
        refine x_iald (dtk dt_X12_layer 20 (30, .iaload, 1) rfl) (wk_39 hA.wf) ⟨by omega, by omega⟩ ?_
        rw [hA.at]
        refine x_iconst (v := -1) ⟨by decide, by decide⟩ (dtk dt_X12_layer 21 (31, .iconst (-1), 1) rfl) ?_
        refine x_ixor (dtk dt_X12_layer 22 (32, .ixor, 1) rfl) ?_
        refine x_iand (dtk dt_X12_layer 23 (33, .iand, 1) rfl) ?_
        refine x_if_ne (tgt := 41) (dtk dt_X12_layer 24 (34, .ifCond .ne 7, 3) rfl) (by decide) (fun c34 => ?_) (fun c34 => ?_)
        · skip
          refine x_iconst (v := 0) ⟨by decide, by decide⟩ (dtk dt_X12_layer 27 (41, .iconst 0, 1) rfl) ?_
          refine MW.sub [0, 1, 2, 3, 4] rfl ?_
          exact J42_8 false (by clear ih5 J42_8; simp_all [sub])
        · skip
          refine x_iconst (v := 1) ⟨by decide, by decide⟩ (dtk dt_X12_layer 25 (37, .iconst 1, 1) rfl) ?_
          refine x_goto (tgt := 42) (dtk dt_X12_layer 26 (38, .goto 4, 3) rfl) (by decide) ?_
          refine MW.sub [0, 1, 2, 3, 4] rfl ?_
          exact J42_8 true (by clear ih5 J42_8; simp_all [sub])
  refine MW.sub [2, 3, 4, 1, 0] rfl ?_
  exact L5 _ _ _ (by omega) rfl rfl
set_option maxRecDepth 100000 in
set_option maxHeartbeats 4000000 in
theorem c_X12_height {G : GG} {n : Nat} {K : KK} {M : MM} {o : Int} {m : Int} {d : Int → Int} (hA : AT K M o m d) : MC G mi_X12_height 5 0 0 [(1, 36), (0, o)] n K M (PQ (some (0, hgt m d)) n K (M)) := by
  refine MC.intro (lc := [(0, (1, 36)), (1, (0, o))]) (by decide) rfl (by simp [Nat.ble]) (Nat.le_of_ble_eq_true rfl) rfl (fun hMR => ?_)
  have ho := hA.2.1
  have hsz := hA.ok.1
  refine x_iconst (v := 0) ⟨by decide, by decide⟩ (dtk dt_X12_height 0 (0, .iconst 0, 1) rfl) ?_
  refine x_istore_n (dtk dt_X12_height 1 (1, .istore_n 2, 1) rfl) (by decide) ?_
  refine x_iconst (v := 0) ⟨by decide, by decide⟩ (dtk dt_X12_height 2 (2, .iconst 0, 1) rfl) ?_
  refine x_istore_n (dtk dt_X12_height 3 (3, .istore_n 3, 1) rfl) (by decide) ?_
  have L4 : ∀ (fu : Nat) (v2 : Int) (v3 : Int), (0 ≤ v3 ∧ v3 ≤ m) → (v2 = foldZ v3 (fun b a => if b < lay m d a + 1 then lay m d a + 1 else b) 0) → (m - v3).toNat = fu → MW G mi_X12_height (rmd 5 0 0) (MZ G (PQ (some (0, hgt m d)) n K (M)) 0 0) (0, 0) 4 [(0, (1, 36)), (1, (0, o)), (2, (0, v2)), (3, (0, v3))] [] n K (M) := by
    intro fu
    induction fu using Nat.strongRecOn with
    | ind fu ih4 =>
      intro v2 v3 h1 h2 hk4
      have hb := hgt_b (m := m) (d := d) v3
      rw [← h2] at hb
      have hb2 := lay_b (m := m) (d := d) (a := v3) (p2 m)
      change 0 ≤ lay m d v3 ∧ lay m d v3 ≤ 10 at hb2
      refine x_iload_n (dtk dt_X12_height 4 (4, .iload_n 3, 1) rfl) rfl ?_
      refine x_aload_n (dtk dt_X12_height 5 (5, .aload_n 0, 1) rfl) rfl ?_
      refine fg_X12_13 rfl (dtk dt_X12_height 6 (6, .getfield 13, 3) rfl) (wk_36 hA.wf) (wm_36_2 hA.wf) ?_
      refine x_iload_n (dtk dt_X12_height 7 (9, .iload_n 1, 1) rfl) rfl ?_
      refine x_iald (dtk dt_X12_height 8 (10, .iaload, 1) rfl) (wk_38 hA.wf) ⟨by omega, by omega⟩ ?_
      rw [hA.sz]
      refine x_icmp_ge (tgt := 43) (dtk dt_X12_height 9 (11, .if_icmp .ge 32, 3) rfl) (by decide) (fun c11 => ?_) (fun c11 => ?_)
      · skip
        refine x_iload_n (dtk dt_X12_height 26 (43, .iload_n 2, 1) rfl) rfl ?_
        exact r_i (dtk dt_X12_height 27 (44, .ireturn, 1) rfl) rfl (by rw [h2, show v3 = m by omega]; rfl) rfl
      · skip
        refine x_aload_n (dtk dt_X12_height 10 (14, .aload_n 0, 1) rfl) rfl ?_
        refine x_iload_n (dtk dt_X12_height 11 (15, .iload_n 1, 1) rfl) rfl ?_
        refine x_iload_n (dtk dt_X12_height 12 (16, .iload_n 3, 1) rfl) rfl ?_
        refine kc_X12_179 rfl (dtk dt_X12_height 13 (17, .invokevirtual 179, 3) rfl) (c_X12_layer (G := G)  hA (by omega)) rfl rfl (wk_36 hA.wf) (fitR (by decide) (by decide)) (Nat.le_of_ble_eq_true rfl) (pqK ?_)
        refine x_iconst (v := 1) ⟨by decide, by decide⟩ (dtk dt_X12_height 14 (20, .iconst 1, 1) rfl) ?_
        refine y_iadd (dtk dt_X12_height 15 (21, .iadd, 1) rfl) ⟨by omega, by omega⟩ ?_
        refine x_istore (dtk dt_X12_height 16 (22, .istore 4, 2) rfl) (by decide) ?_
        refine x_iload (dtk dt_X12_height 17 (24, .iload 4, 2) rfl) rfl ?_
        refine x_iload_n (dtk dt_X12_height 18 (26, .iload_n 2, 1) rfl) rfl ?_
        refine x_icmp_le (tgt := 35) (dtk dt_X12_height 19 (27, .if_icmp .le 8, 3) rfl) (by decide) (fun c27 => ?_) (fun c27 => ?_)
        · skip
          refine x_iload_n (dtk dt_X12_height 22 (35, .iload_n 2, 1) rfl) rfl ?_
          refine x_istore_n (dtk dt_X12_height 23 (36, .istore_n 2, 1) rfl) (by decide) ?_
          refine y_iinc (dtk dt_X12_height 24 (37, .iinc 3 1, 3) rfl) rfl (by decide) ⟨by omega, by omega⟩ ?_
          refine x_goto (tgt := 4) (dtk dt_X12_height 25 (40, .goto (-36), 3) rfl) (by decide) ?_
          refine MW.sub [3, 4, 1, 0] rfl ?_
          exact ih4 _ (by omega) _ _ (by omega) (by clear ih4; rw [foldZ_s (by omega), ← h2]; simp_all; try omega) rfl
        · skip
          refine x_iload (dtk dt_X12_height 20 (30, .iload 4, 2) rfl) rfl ?_
          refine x_goto (tgt := 36) (dtk dt_X12_height 21 (32, .goto 4, 3) rfl) (by decide) ?_
          refine x_istore_n (dtk dt_X12_height 23 (36, .istore_n 2, 1) rfl) (by decide) ?_
          refine y_iinc (dtk dt_X12_height 24 (37, .iinc 3 1, 3) rfl) rfl (by decide) ⟨by omega, by omega⟩ ?_
          refine x_goto (tgt := 4) (dtk dt_X12_height 25 (40, .goto (-36), 3) rfl) (by decide) ?_
          refine MW.sub [3, 4, 1, 0] rfl ?_
          exact ih4 _ (by omega) _ _ (by omega) (by clear ih4; rw [foldZ_s (by omega), ← h2]; simp_all; try omega) rfl
  refine MW.sub [2, 3, 1, 0] rfl ?_
  exact L4 _ _ _ (by omega) rfl rfl
set_option maxRecDepth 100000 in
set_option maxHeartbeats 4000000 in
theorem c_X12_isOn {G : GG} {n : Nat} {K : KK} {M : MM} {o a c w : Int} {m : Int} {d : Int → Int} (hA : AT K M o m d) (ha : 0 ≤ a ∧ a < 10) (hc : 0 ≤ c ∧ c < 10) : MC G mi_X12_isOn 3 0 0 [(1, 36), (0, o), (0, a), (0, c), (0, w)] n K M (PQ (some (0, B (onW d w a c))) n K (M)) := by
  refine MC.intro (lc := [(0, (1, 36)), (1, (0, o)), (2, (0, a)), (3, (0, c)), (4, (0, w))]) (by decide) rfl (by simp [Nat.ble]) (Nat.le_of_ble_eq_true rfl) rfl (fun hMR => ?_)
  refine x_iload_n (dtk dt_X12_isOn 0 (0, .iload_n 2, 1) rfl) rfl ?_
  refine x_iload_n (dtk dt_X12_isOn 1 (1, .iload_n 3, 1) rfl) rfl ?_
  refine x_icmp_eq (tgt := 33) (dtk dt_X12_isOn 2 (2, .if_icmp .eq 31, 3) rfl) (by decide) (fun c2 => ?_) (fun c2 => ?_)
  · skip
    refine x_iconst (v := 1) ⟨by decide, by decide⟩ (dtk dt_X12_isOn 18 (33, .iconst 1, 1) rfl) ?_
    refine x_goto (tgt := 38) (dtk dt_X12_isOn 19 (34, .goto 4, 3) rfl) (by decide) ?_
    exact r_b (b := true) (dtk dt_X12_isOn 21 (38, .ireturn, 1) rfl) rfl (by unfold onW; simp_all) rfl
  · skip
    refine x_iload (dtk dt_X12_isOn 3 (5, .iload 4, 2) rfl) rfl ?_
    refine x_if_ne (tgt := 23) (dtk dt_X12_isOn 4 (7, .ifCond .ne 16, 3) rfl) (by decide) (fun c7 => ?_) (fun c7 => ?_)
    · skip
      refine x_aload_n (dtk dt_X12_isOn 12 (23, .aload_n 0, 1) rfl) rfl ?_
      refine x_iload_n (dtk dt_X12_isOn 13 (24, .iload_n 1, 1) rfl) rfl ?_
      refine x_iload_n (dtk dt_X12_isOn 14 (25, .iload_n 3, 1) rfl) rfl ?_
      refine x_iload_n (dtk dt_X12_isOn 15 (26, .iload_n 2, 1) rfl) rfl ?_
      refine kc_X12_86 rfl (dtk dt_X12_isOn 16 (27, .invokevirtual 86, 3) rfl) (c_X12_isBelow (G := G)  hA (by omega) (by omega)) rfl rfl (wk_36 hA.wf) (fitR (by decide) (by decide)) (Nat.le_of_ble_eq_true rfl) (pqK ?_)
      refine x_if_eqB (tgt := 37) (dtk dt_X12_isOn 17 (30, .ifCond .eq 7, 3) rfl) (by decide) (fun c30 => ?_) (fun c30 => ?_)
      · skip
        refine x_iconst (v := 0) ⟨by decide, by decide⟩ (dtk dt_X12_isOn 20 (37, .iconst 0, 1) rfl) ?_
        exact r_b (b := false) (dtk dt_X12_isOn 21 (38, .ireturn, 1) rfl) rfl (by unfold onW; simp_all) rfl
      · skip
        refine x_iconst (v := 1) ⟨by decide, by decide⟩ (dtk dt_X12_isOn 18 (33, .iconst 1, 1) rfl) ?_
        refine x_goto (tgt := 38) (dtk dt_X12_isOn 19 (34, .goto 4, 3) rfl) (by decide) ?_
        exact r_b (b := true) (dtk dt_X12_isOn 21 (38, .ireturn, 1) rfl) rfl (by unfold onW; simp_all) rfl
    · skip
      refine x_aload_n (dtk dt_X12_isOn 5 (10, .aload_n 0, 1) rfl) rfl ?_
      refine x_iload_n (dtk dt_X12_isOn 6 (11, .iload_n 1, 1) rfl) rfl ?_
      refine x_iload_n (dtk dt_X12_isOn 7 (12, .iload_n 2, 1) rfl) rfl ?_
      refine x_iload_n (dtk dt_X12_isOn 8 (13, .iload_n 3, 1) rfl) rfl ?_
      refine kc_X12_86 rfl (dtk dt_X12_isOn 9 (14, .invokevirtual 86, 3) rfl) (c_X12_isBelow (G := G)  hA (by omega) (by omega)) rfl rfl (wk_36 hA.wf) (fitR (by decide) (by decide)) (Nat.le_of_ble_eq_true rfl) (pqK ?_)
      refine x_if_eqB (tgt := 37) (dtk dt_X12_isOn 10 (17, .ifCond .eq 20, 3) rfl) (by decide) (fun c17 => ?_) (fun c17 => ?_)
      · skip
        refine x_iconst (v := 0) ⟨by decide, by decide⟩ (dtk dt_X12_isOn 20 (37, .iconst 0, 1) rfl) ?_
        exact r_b (b := false) (dtk dt_X12_isOn 21 (38, .ireturn, 1) rfl) rfl (by unfold onW; simp_all) rfl
      · skip
        refine x_goto (tgt := 33) (dtk dt_X12_isOn 11 (20, .goto 13, 3) rfl) (by decide) ?_
        refine x_iconst (v := 1) ⟨by decide, by decide⟩ (dtk dt_X12_isOn 18 (33, .iconst 1, 1) rfl) ?_
        refine x_goto (tgt := 38) (dtk dt_X12_isOn 19 (34, .goto 4, 3) rfl) (by decide) ?_
        exact r_b (b := true) (dtk dt_X12_isOn 21 (38, .ireturn, 1) rfl) rfl (by unfold onW; simp_all) rfl
set_option maxRecDepth 100000 in
set_option maxHeartbeats 4000000 in
theorem c_X12_bound0 {G : GG} {n : Nat} {K : KK} {M : MM} {o a b w : Int} {m : Int} {d : Int → Int} (hA : AT K M o m d) (ha : 0 ≤ a ∧ a < 10) (hb : 0 ≤ b ∧ b < 10) : MC G mi_X12_bound0 4 0 0 [(1, 36), (0, o), (0, a), (0, b), (0, w)] n K M (PQ (some (0, bnd m d w a b)) n K (M)) := by
  refine MC.intro (lc := [(0, (1, 36)), (1, (0, o)), (2, (0, a)), (3, (0, b)), (4, (0, w))]) (by decide) rfl (by simp [Nat.ble]) (Nat.le_of_ble_eq_true rfl) rfl (fun hMR => ?_)
  have ho := hA.2.1
  have hsz := hA.ok.1
  refine x_iconst (v := 0) ⟨by decide, by decide⟩ (dtk dt_X12_bound0 0 (0, .iconst 0, 1) rfl) ?_
  refine x_istore (dtk dt_X12_bound0 1 (1, .istore 5, 2) rfl) (by decide) ?_
  have L3 : ∀ (fu : Nat) (v5 : Int), (0 ≤ v5 ∧ v5 ≤ m) → (rs m (fun c => if isBd m d w a b c then c else -1) v5 = bnd m d w a b) → (m - v5).toNat = fu → MW G mi_X12_bound0 (rmd 4 0 0) (MZ G (PQ (some (0, bnd m d w a b)) n K (M)) 0 0) (0, 0) 3 [(0, (1, 36)), (1, (0, o)), (2, (0, a)), (3, (0, b)), (4, (0, w)), (5, (0, v5))] [] n K (M) := by
    intro fu
    induction fu using Nat.strongRecOn with
    | ind fu ih3 =>
      intro v5 h1 h2 hk3
      refine x_iload (dtk dt_X12_bound0 2 (3, .iload 5, 2) rfl) rfl ?_
      refine x_aload_n (dtk dt_X12_bound0 3 (5, .aload_n 0, 1) rfl) rfl ?_
      refine fg_X12_13 rfl (dtk dt_X12_bound0 4 (6, .getfield 13, 3) rfl) (wk_36 hA.wf) (wm_36_2 hA.wf) ?_
      refine x_iload_n (dtk dt_X12_bound0 5 (9, .iload_n 1, 1) rfl) rfl ?_
      refine x_iald (dtk dt_X12_bound0 6 (10, .iaload, 1) rfl) (wk_38 hA.wf) ⟨by omega, by omega⟩ ?_
      rw [hA.sz]
      refine x_icmp_ge (tgt := 152) (dtk dt_X12_bound0 7 (11, .if_icmp .ge 141, 3) rfl) (by decide) (fun c11 => ?_) (fun c11 => ?_)
      · skip
        refine x_iconst (v := -1) ⟨by decide, by decide⟩ (dtk dt_X12_bound0 78 (152, .iconst (-1), 1) rfl) ?_
        exact r_i (dtk dt_X12_bound0 79 (153, .ireturn, 1) rfl) rfl (by rw [rs_e (by omega)] at h2; exact h2) rfl
      · skip
        have J45_8 : ∀ (j6 : Bool), (j6 = (onW d w a v5 && onW d w b v5)) → MW G mi_X12_bound0 (rmd 4 0 0) (MZ G (PQ (some (0, bnd m d w a b)) n K (M)) 0 0) (0, 0) 45 [(0, (1, 36)), (1, (0, o)), (2, (0, a)), (3, (0, b)), (4, (0, w)), (5, (0, v5))] [(0, B j6)] n K (M) := by
          intro j6 hJ
          refine x_istore (dtk dt_X12_bound0 25 (45, .istore 6, 2) rfl) (by decide) ?_
          refine x_iconst (v := 0) ⟨by decide, by decide⟩ (dtk dt_X12_bound0 26 (47, .iconst 0, 1) rfl) ?_
          refine x_istore (dtk dt_X12_bound0 27 (48, .istore 7, 2) rfl) (by decide) ?_
          have L50 : ∀ (fu : Nat) (v6 : Bool) (v7 : Int), (0 ≤ v7 ∧ v7 ≤ m) → (v6 = ((onW d w a v5 && onW d w b v5) && allB v7 (fun e => !(decide (e ≠ v5) && onW d w a e && onW d w b e) || onW d w v5 e))) → (m - v7).toNat = fu → MW G mi_X12_bound0 (rmd 4 0 0) (MZ G (PQ (some (0, bnd m d w a b)) n K (M)) 0 0) (0, 0) 50 [(0, (1, 36)), (1, (0, o)), (2, (0, a)), (3, (0, b)), (4, (0, w)), (5, (0, v5)), (6, (0, B v6)), (7, (0, v7))] [] n K (M) := by
            intro fu
            induction fu using Nat.strongRecOn with
            | ind fu ih50 =>
              intro v6 v7 h3 h4 hk50
              refine x_iload (dtk dt_X12_bound0 28 (50, .iload 7, 2) rfl) rfl ?_
              refine x_aload_n (dtk dt_X12_bound0 29 (52, .aload_n 0, 1) rfl) rfl ?_
              refine fg_X12_13 rfl (dtk dt_X12_bound0 30 (53, .getfield 13, 3) rfl) (wk_36 hA.wf) (wm_36_2 hA.wf) ?_
              refine x_iload_n (dtk dt_X12_bound0 31 (56, .iload_n 1, 1) rfl) rfl ?_
              refine x_iald (dtk dt_X12_bound0 32 (57, .iaload, 1) rfl) (wk_38 hA.wf) ⟨by omega, by omega⟩ ?_
              rw [hA.sz]
              refine x_icmp_ge (tgt := 138) (dtk dt_X12_bound0 33 (58, .if_icmp .ge 80, 3) rfl) (by decide) (fun c58 => ?_) (fun c58 => ?_)
              · skip
                have hi : v6 = isBd m d w a b v5 := by rw [h4, show v7 = m by omega]; rfl
                refine x_iload (dtk dt_X12_bound0 72 (138, .iload 6, 2) rfl) rfl ?_
                refine x_if_eqB (tgt := 146) (dtk dt_X12_bound0 73 (140, .ifCond .eq 6, 3) rfl) (by decide) (fun c140 => ?_) (fun c140 => ?_)
                · skip
                  refine y_iinc (dtk dt_X12_bound0 76 (146, .iinc 5 1, 3) rfl) rfl (by decide) ⟨by omega, by omega⟩ ?_
                  refine x_goto (tgt := 3) (dtk dt_X12_bound0 77 (149, .goto (-146), 3) rfl) (by decide) ?_
                  refine MW.sub [1, 2, 3, 4, 5, 0] rfl ?_
                  exact ih3 _ (by omega) _ (by omega) (by rw [rs_s (by omega), ← hi, c140, if_neg (by decide), oe_m] at h2; exact h2) rfl
                · skip
                  refine x_iload (dtk dt_X12_bound0 74 (143, .iload 5, 2) rfl) rfl ?_
                  exact r_i (dtk dt_X12_bound0 75 (145, .ireturn, 1) rfl) rfl (by rw [rs_s (by omega), ← hi, c140, if_pos rfl, oe_n (by omega)] at h2; exact h2) rfl
              · skip
                have J99_16 : ∀ (j8 : Bool), (j8 = (decide (v7 ≠ v5) && onW d w a v7 && onW d w b v7)) → MW G mi_X12_bound0 (rmd 4 0 0) (MZ G (PQ (some (0, bnd m d w a b)) n K (M)) 0 0) (0, 0) 99 [(0, (1, 36)), (1, (0, o)), (2, (0, a)), (3, (0, b)), (4, (0, w)), (5, (0, v5)), (6, (0, B (v6))), (7, (0, v7))] [(0, B j8)] n K (M) := by
                  intro j8 hJ2
                  refine x_istore (dtk dt_X12_bound0 54 (99, .istore 8, 2) rfl) (by decide) ?_
                  refine x_iload (dtk dt_X12_bound0 55 (101, .iload 6, 2) rfl) rfl ?_
                  refine x_if_eqB (tgt := 129) (dtk dt_X12_bound0 56 (103, .ifCond .eq 26, 3) rfl) (by decide) (fun c103 => ?_) (fun c103 => ?_)
                  · skip
                    refine x_iconst (v := 0) ⟨by decide, by decide⟩ (dtk dt_X12_bound0 68 (129, .iconst 0, 1) rfl) ?_
                    refine x_istore (dtk dt_X12_bound0 69 (130, .istore 6, 2) rfl) (by decide) ?_
                    refine y_iinc (dtk dt_X12_bound0 70 (132, .iinc 7 1, 3) rfl) rfl (by decide) ⟨by omega, by omega⟩ ?_
                    refine x_goto (tgt := 50) (dtk dt_X12_bound0 71 (135, .goto (-85), 3) rfl) (by decide) ?_
                    refine MW.sub [3, 4, 5, 6, 7, 8, 1, 0] rfl ?_
                    exact ih50 _ (by omega) false _ (by omega) (by clear ih3 ih50; rw [allB_s (by omega), ← Bool.and_assoc, ← h4]; rw [← hJ2]; clear hJ2 h4; simp_all) rfl
                  · skip
                    refine x_iload (dtk dt_X12_bound0 57 (106, .iload 8, 2) rfl) rfl ?_
                    refine x_if_eqB (tgt := 125) (dtk dt_X12_bound0 58 (108, .ifCond .eq 17, 3) rfl) (by decide) (fun c108 => ?_) (fun c108 => ?_)
                    · skip
                      refine x_iconst (v := 1) ⟨by decide, by decide⟩ (dtk dt_X12_bound0 66 (125, .iconst 1, 1) rfl) ?_
                      refine x_goto (tgt := 130) (dtk dt_X12_bound0 67 (126, .goto 4, 3) rfl) (by decide) ?_
                      refine x_istore (dtk dt_X12_bound0 69 (130, .istore 6, 2) rfl) (by decide) ?_
                      refine y_iinc (dtk dt_X12_bound0 70 (132, .iinc 7 1, 3) rfl) rfl (by decide) ⟨by omega, by omega⟩ ?_
                      refine x_goto (tgt := 50) (dtk dt_X12_bound0 71 (135, .goto (-85), 3) rfl) (by decide) ?_
                      refine MW.sub [3, 4, 5, 6, 7, 8, 1, 0] rfl ?_
                      exact ih50 _ (by omega) true _ (by omega) (by clear ih3 ih50; rw [allB_s (by omega), ← Bool.and_assoc, ← h4]; rw [← hJ2]; clear hJ2 h4; simp_all) rfl
                    · skip
                      refine x_aload_n (dtk dt_X12_bound0 59 (111, .aload_n 0, 1) rfl) rfl ?_
                      refine x_iload_n (dtk dt_X12_bound0 60 (112, .iload_n 1, 1) rfl) rfl ?_
                      refine x_iload (dtk dt_X12_bound0 61 (113, .iload 5, 2) rfl) rfl ?_
                      refine x_iload (dtk dt_X12_bound0 62 (115, .iload 7, 2) rfl) rfl ?_
                      refine x_iload (dtk dt_X12_bound0 63 (117, .iload 4, 2) rfl) rfl ?_
                      refine kc_X12_202 rfl (dtk dt_X12_bound0 64 (119, .invokevirtual 202, 3) rfl) (c_X12_isOn (G := G)  hA (by omega) (by omega)) rfl rfl (wk_36 hA.wf) (fitR (by decide) (by decide)) (Nat.le_of_ble_eq_true rfl) (pqK ?_)
                      refine x_if_eqB (tgt := 129) (dtk dt_X12_bound0 65 (122, .ifCond .eq 7, 3) rfl) (by decide) (fun c122 => ?_) (fun c122 => ?_)
                      · skip
                        refine x_iconst (v := 0) ⟨by decide, by decide⟩ (dtk dt_X12_bound0 68 (129, .iconst 0, 1) rfl) ?_
                        refine x_istore (dtk dt_X12_bound0 69 (130, .istore 6, 2) rfl) (by decide) ?_
                        refine y_iinc (dtk dt_X12_bound0 70 (132, .iinc 7 1, 3) rfl) rfl (by decide) ⟨by omega, by omega⟩ ?_
                        refine x_goto (tgt := 50) (dtk dt_X12_bound0 71 (135, .goto (-85), 3) rfl) (by decide) ?_
                        refine MW.sub [3, 4, 5, 6, 7, 8, 1, 0] rfl ?_
                        exact ih50 _ (by omega) false _ (by omega) (by clear ih3 ih50; rw [allB_s (by omega), ← Bool.and_assoc, ← h4]; rw [← hJ2]; clear hJ2 h4; simp_all) rfl
                      · skip
                        refine x_iconst (v := 1) ⟨by decide, by decide⟩ (dtk dt_X12_bound0 66 (125, .iconst 1, 1) rfl) ?_
                        refine x_goto (tgt := 130) (dtk dt_X12_bound0 67 (126, .goto 4, 3) rfl) (by decide) ?_
                        refine x_istore (dtk dt_X12_bound0 69 (130, .istore 6, 2) rfl) (by decide) ?_
                        refine y_iinc (dtk dt_X12_bound0 70 (132, .iinc 7 1, 3) rfl) rfl (by decide) ⟨by omega, by omega⟩ ?_
                        refine x_goto (tgt := 50) (dtk dt_X12_bound0 71 (135, .goto (-85), 3) rfl) (by decide) ?_
                        refine MW.sub [3, 4, 5, 6, 7, 8, 1, 0] rfl ?_
                        exact ih50 _ (by omega) true _ (by omega) (by clear ih3 ih50; rw [allB_s (by omega), ← Bool.and_assoc, ← h4]; rw [← hJ2]; clear hJ2 h4; simp_all) rfl
                refine x_iload (dtk dt_X12_bound0 34 (61, .iload 7, 2) rfl) rfl ?_
                refine x_iload (dtk dt_X12_bound0 35 (63, .iload 5, 2) rfl) rfl ?_
                refine x_icmp_eq (tgt := 98) (dtk dt_X12_bound0 36 (65, .if_icmp .eq 33, 3) rfl) (by decide) (fun c65 => ?_) (fun c65 => ?_)
                · skip
                  refine x_iconst (v := 0) ⟨by decide, by decide⟩ (dtk dt_X12_bound0 53 (98, .iconst 0, 1) rfl) ?_
                  refine MW.sub [0, 1, 2, 3, 4, 5, 6, 7] rfl ?_
                  exact J99_16 false (by clear ih3 ih50 J99_16; simp_all)
                · skip
                  refine x_aload_n (dtk dt_X12_bound0 37 (68, .aload_n 0, 1) rfl) rfl ?_
                  refine x_iload_n (dtk dt_X12_bound0 38 (69, .iload_n 1, 1) rfl) rfl ?_
                  refine x_iload_n (dtk dt_X12_bound0 39 (70, .iload_n 2, 1) rfl) rfl ?_
                  refine x_iload (dtk dt_X12_bound0 40 (71, .iload 7, 2) rfl) rfl ?_
                  refine x_iload (dtk dt_X12_bound0 41 (73, .iload 4, 2) rfl) rfl ?_
                  refine kc_X12_202 rfl (dtk dt_X12_bound0 42 (75, .invokevirtual 202, 3) rfl) (c_X12_isOn (G := G)  hA (by omega) (by omega)) rfl rfl (wk_36 hA.wf) (fitR (by decide) (by decide)) (Nat.le_of_ble_eq_true rfl) (pqK ?_)
                  refine x_if_eqB (tgt := 98) (dtk dt_X12_bound0 43 (78, .ifCond .eq 20, 3) rfl) (by decide) (fun c78 => ?_) (fun c78 => ?_)
                  · skip
                    refine x_iconst (v := 0) ⟨by decide, by decide⟩ (dtk dt_X12_bound0 53 (98, .iconst 0, 1) rfl) ?_
                    refine MW.sub [0, 1, 2, 3, 4, 5, 6, 7] rfl ?_
                    exact J99_16 false (by clear ih3 ih50 J99_16; simp_all)
                  · skip
                    refine x_aload_n (dtk dt_X12_bound0 44 (81, .aload_n 0, 1) rfl) rfl ?_
                    refine x_iload_n (dtk dt_X12_bound0 45 (82, .iload_n 1, 1) rfl) rfl ?_
                    refine x_iload_n (dtk dt_X12_bound0 46 (83, .iload_n 3, 1) rfl) rfl ?_
                    refine x_iload (dtk dt_X12_bound0 47 (84, .iload 7, 2) rfl) rfl ?_
                    refine x_iload (dtk dt_X12_bound0 48 (86, .iload 4, 2) rfl) rfl ?_
                    refine kc_X12_202 rfl (dtk dt_X12_bound0 49 (88, .invokevirtual 202, 3) rfl) (c_X12_isOn (G := G)  hA (by omega) (by omega)) rfl rfl (wk_36 hA.wf) (fitR (by decide) (by decide)) (Nat.le_of_ble_eq_true rfl) (pqK ?_)
                    refine x_if_eqB (tgt := 98) (dtk dt_X12_bound0 50 (91, .ifCond .eq 7, 3) rfl) (by decide) (fun c91 => ?_) (fun c91 => ?_)
                    · skip
                      refine x_iconst (v := 0) ⟨by decide, by decide⟩ (dtk dt_X12_bound0 53 (98, .iconst 0, 1) rfl) ?_
                      refine MW.sub [0, 1, 2, 3, 4, 5, 6, 7] rfl ?_
                      exact J99_16 false (by clear ih3 ih50 J99_16; simp_all)
                    · skip
                      refine x_iconst (v := 1) ⟨by decide, by decide⟩ (dtk dt_X12_bound0 51 (94, .iconst 1, 1) rfl) ?_
                      refine x_goto (tgt := 99) (dtk dt_X12_bound0 52 (95, .goto 4, 3) rfl) (by decide) ?_
                      refine MW.sub [0, 1, 2, 3, 4, 5, 6, 7] rfl ?_
                      exact J99_16 true (by clear ih3 ih50 J99_16; simp_all)
          refine MW.sub [2, 3, 4, 5, 6, 7, 1, 0] rfl ?_
          exact L50 _ _ _ (by omega) (by rw [hJ, allB_0, Bool.and_true]) rfl
        refine x_aload_n (dtk dt_X12_bound0 8 (14, .aload_n 0, 1) rfl) rfl ?_
        refine x_iload_n (dtk dt_X12_bound0 9 (15, .iload_n 1, 1) rfl) rfl ?_
        refine x_iload_n (dtk dt_X12_bound0 10 (16, .iload_n 2, 1) rfl) rfl ?_
        refine x_iload (dtk dt_X12_bound0 11 (17, .iload 5, 2) rfl) rfl ?_
        refine x_iload (dtk dt_X12_bound0 12 (19, .iload 4, 2) rfl) rfl ?_
        refine kc_X12_202 rfl (dtk dt_X12_bound0 13 (21, .invokevirtual 202, 3) rfl) (c_X12_isOn (G := G)  hA (by omega) (by omega)) rfl rfl (wk_36 hA.wf) (fitR (by decide) (by decide)) (Nat.le_of_ble_eq_true rfl) (pqK ?_)
        refine x_if_eqB (tgt := 44) (dtk dt_X12_bound0 14 (24, .ifCond .eq 20, 3) rfl) (by decide) (fun c24 => ?_) (fun c24 => ?_)
        · skip
          refine x_iconst (v := 0) ⟨by decide, by decide⟩ (dtk dt_X12_bound0 24 (44, .iconst 0, 1) rfl) ?_
          refine MW.sub [0, 1, 2, 3, 4, 5] rfl ?_
          exact J45_8 false (by clear ih3 J45_8; simp_all)
        · skip
          refine x_aload_n (dtk dt_X12_bound0 15 (27, .aload_n 0, 1) rfl) rfl ?_
          refine x_iload_n (dtk dt_X12_bound0 16 (28, .iload_n 1, 1) rfl) rfl ?_
          refine x_iload_n (dtk dt_X12_bound0 17 (29, .iload_n 3, 1) rfl) rfl ?_
          refine x_iload (dtk dt_X12_bound0 18 (30, .iload 5, 2) rfl) rfl ?_
          refine x_iload (dtk dt_X12_bound0 19 (32, .iload 4, 2) rfl) rfl ?_
          refine kc_X12_202 rfl (dtk dt_X12_bound0 20 (34, .invokevirtual 202, 3) rfl) (c_X12_isOn (G := G)  hA (by omega) (by omega)) rfl rfl (wk_36 hA.wf) (fitR (by decide) (by decide)) (Nat.le_of_ble_eq_true rfl) (pqK ?_)
          refine x_if_eqB (tgt := 44) (dtk dt_X12_bound0 21 (37, .ifCond .eq 7, 3) rfl) (by decide) (fun c37 => ?_) (fun c37 => ?_)
          · skip
            refine x_iconst (v := 0) ⟨by decide, by decide⟩ (dtk dt_X12_bound0 24 (44, .iconst 0, 1) rfl) ?_
            refine MW.sub [0, 1, 2, 3, 4, 5] rfl ?_
            exact J45_8 false (by clear ih3 J45_8; simp_all)
          · skip
            refine x_iconst (v := 1) ⟨by decide, by decide⟩ (dtk dt_X12_bound0 22 (40, .iconst 1, 1) rfl) ?_
            refine x_goto (tgt := 45) (dtk dt_X12_bound0 23 (41, .goto 4, 3) rfl) (by decide) ?_
            refine MW.sub [0, 1, 2, 3, 4, 5] rfl ?_
            exact J45_8 true (by clear ih3 J45_8; simp_all)
  refine MW.sub [1, 2, 3, 4, 5, 0] rfl ?_
  exact L3 _ _ (by omega) rfl rfl
set_option maxRecDepth 100000 in
set_option maxHeartbeats 4000000 in
theorem c_X12_isLattice {G : GG} {n : Nat} {K : KK} {M : MM} {o : Int} {m : Int} {d : Int → Int} (hA : AT K M o m d) : MC G mi_X12_isLattice 5 0 0 [(1, 36), (0, o)] n K M (PQ (some (0, B (latt m d))) n K (M)) := by
  refine MC.intro (lc := [(0, (1, 36)), (1, (0, o))]) (by decide) rfl (by simp [Nat.ble]) (Nat.le_of_ble_eq_true rfl) rfl (fun hMR => ?_)
  have ho := hA.2.1
  have hsz := hA.ok.1
  have J14_2 : ∀ (j : Bool), (j = decide (0 < m)) → MW G mi_X12_isLattice (rmd 5 0 0) (MZ G (PQ (some (0, B (latt m d))) n K (M)) 0 0) (0, 0) 14 [(0, (1, 36)), (1, (0, o))] [(0, B j)] n K (M) := by
    intro j hJ
    refine x_istore_n (dtk dt_X12_isLattice 8 (14, .istore_n 2, 1) rfl) (by decide) ?_
    refine x_iconst (v := 0) ⟨by decide, by decide⟩ (dtk dt_X12_isLattice 9 (15, .iconst 0, 1) rfl) ?_
    refine x_istore_n (dtk dt_X12_isLattice 10 (16, .istore_n 3, 1) rfl) (by decide) ?_
    have L17 : ∀ (fu : Nat) (v2 : Bool) (v3 : Int), (0 ≤ v3 ∧ v3 ≤ m) → (v2 = (decide (0 < m) && allB v3 (fun a => allB m (fun b => decide (bnd m d 0 a b ≠ -1) && decide (bnd m d 1 a b ≠ -1))))) → (m - v3).toNat = fu → MW G mi_X12_isLattice (rmd 5 0 0) (MZ G (PQ (some (0, B (latt m d))) n K (M)) 0 0) (0, 0) 17 [(0, (1, 36)), (1, (0, o)), (2, (0, B v2)), (3, (0, v3))] [] n K (M) := by
      intro fu
      induction fu using Nat.strongRecOn with
      | ind fu ih17 =>
        intro v2 v3 h1 h2 hk17
        refine x_iload_n (dtk dt_X12_isLattice 11 (17, .iload_n 3, 1) rfl) rfl ?_
        refine x_aload_n (dtk dt_X12_isLattice 12 (18, .aload_n 0, 1) rfl) rfl ?_
        refine fg_X12_13 rfl (dtk dt_X12_isLattice 13 (19, .getfield 13, 3) rfl) (wk_36 hA.wf) (wm_36_2 hA.wf) ?_
        refine x_iload_n (dtk dt_X12_isLattice 14 (22, .iload_n 1, 1) rfl) rfl ?_
        refine x_iald (dtk dt_X12_isLattice 15 (23, .iaload, 1) rfl) (wk_38 hA.wf) ⟨by omega, by omega⟩ ?_
        rw [hA.sz]
        refine x_icmp_ge (tgt := 89) (dtk dt_X12_isLattice 16 (24, .if_icmp .ge 65, 3) rfl) (by decide) (fun c24 => ?_) (fun c24 => ?_)
        · skip
          refine x_iload_n (dtk dt_X12_isLattice 51 (89, .iload_n 2, 1) rfl) rfl ?_
          exact r_b (dtk dt_X12_isLattice 52 (90, .ireturn, 1) rfl) rfl (by rw [h2, show v3 = m by omega]; rfl) rfl
        · skip
          refine x_iconst (v := 0) ⟨by decide, by decide⟩ (dtk dt_X12_isLattice 17 (27, .iconst 0, 1) rfl) ?_
          refine x_istore (dtk dt_X12_isLattice 18 (28, .istore 4, 2) rfl) (by decide) ?_
          have L30 : ∀ (fu : Nat) (w2 : Bool) (v4 : Int), (0 ≤ v4 ∧ v4 ≤ m) → (w2 = (v2 && allB v4 (fun b => decide (bnd m d 0 v3 b ≠ -1) && decide (bnd m d 1 v3 b ≠ -1)))) → (m - v4).toNat = fu → MW G mi_X12_isLattice (rmd 5 0 0) (MZ G (PQ (some (0, B (latt m d))) n K (M)) 0 0) (0, 0) 30 [(0, (1, 36)), (1, (0, o)), (2, (0, B w2)), (3, (0, v3)), (4, (0, v4))] [] n K (M) := by
            intro fu
            induction fu using Nat.strongRecOn with
            | ind fu ih30 =>
              intro w2 v4 h3 h4 hk30
              refine x_iload (dtk dt_X12_isLattice 19 (30, .iload 4, 2) rfl) rfl ?_
              refine x_aload_n (dtk dt_X12_isLattice 20 (32, .aload_n 0, 1) rfl) rfl ?_
              refine fg_X12_13 rfl (dtk dt_X12_isLattice 21 (33, .getfield 13, 3) rfl) (wk_36 hA.wf) (wm_36_2 hA.wf) ?_
              refine x_iload_n (dtk dt_X12_isLattice 22 (36, .iload_n 1, 1) rfl) rfl ?_
              refine x_iald (dtk dt_X12_isLattice 23 (37, .iaload, 1) rfl) (wk_38 hA.wf) ⟨by omega, by omega⟩ ?_
              rw [hA.sz]
              refine x_icmp_ge (tgt := 83) (dtk dt_X12_isLattice 24 (38, .if_icmp .ge 45, 3) rfl) (by decide) (fun c38 => ?_) (fun c38 => ?_)
              · skip
                refine y_iinc (dtk dt_X12_isLattice 49 (83, .iinc 3 1, 3) rfl) rfl (by decide) ⟨by omega, by omega⟩ ?_
                refine x_goto (tgt := 17) (dtk dt_X12_isLattice 50 (86, .goto (-69), 3) rfl) (by decide) ?_
                refine MW.sub [1, 2, 3, 0] rfl ?_
                exact ih17 _ (by omega) _ _ (by omega) (by rw [h4, allB_s (by omega), ← Bool.and_assoc, ← h2, show v4 = m by omega]) rfl
              · skip
                refine x_iload_n (dtk dt_X12_isLattice 25 (41, .iload_n 2, 1) rfl) rfl ?_
                refine x_if_eqB (tgt := 75) (dtk dt_X12_isLattice 26 (42, .ifCond .eq 33, 3) rfl) (by decide) (fun c42 => ?_) (fun c42 => ?_)
                · skip
                  refine x_iconst (v := 0) ⟨by decide, by decide⟩ (dtk dt_X12_isLattice 45 (75, .iconst 0, 1) rfl) ?_
                  refine x_istore_n (dtk dt_X12_isLattice 46 (76, .istore_n 2, 1) rfl) (by decide) ?_
                  refine y_iinc (dtk dt_X12_isLattice 47 (77, .iinc 4 1, 3) rfl) rfl (by decide) ⟨by omega, by omega⟩ ?_
                  refine x_goto (tgt := 30) (dtk dt_X12_isLattice 48 (80, .goto (-50), 3) rfl) (by decide) ?_
                  refine MW.sub [2, 3, 1, 4, 0] rfl ?_
                  exact ih30 _ (by omega) false _ (by omega) (by clear ih17 ih30; rw [allB_s (by omega), ← Bool.and_assoc, ← h4]; simp_all) rfl
                · skip
                  refine x_aload_n (dtk dt_X12_isLattice 27 (45, .aload_n 0, 1) rfl) rfl ?_
                  refine x_iload_n (dtk dt_X12_isLattice 28 (46, .iload_n 1, 1) rfl) rfl ?_
                  refine x_iload_n (dtk dt_X12_isLattice 29 (47, .iload_n 3, 1) rfl) rfl ?_
                  refine x_iload (dtk dt_X12_isLattice 30 (48, .iload 4, 2) rfl) rfl ?_
                  refine x_iconst (v := 0) ⟨by decide, by decide⟩ (dtk dt_X12_isLattice 31 (50, .iconst 0, 1) rfl) ?_
                  refine kc_X12_205 rfl (dtk dt_X12_isLattice 32 (51, .invokevirtual 205, 3) rfl) (c_X12_bound0 (G := G)  hA (by omega) (by omega)) rfl rfl (wk_36 hA.wf) (fitR (by decide) (by decide)) (Nat.le_of_ble_eq_true rfl) (pqK ?_)
                  refine x_iconst (v := -1) ⟨by decide, by decide⟩ (dtk dt_X12_isLattice 33 (54, .iconst (-1), 1) rfl) ?_
                  refine x_icmp_eq (tgt := 75) (dtk dt_X12_isLattice 34 (55, .if_icmp .eq 20, 3) rfl) (by decide) (fun c55 => ?_) (fun c55 => ?_)
                  · skip
                    refine x_iconst (v := 0) ⟨by decide, by decide⟩ (dtk dt_X12_isLattice 45 (75, .iconst 0, 1) rfl) ?_
                    refine x_istore_n (dtk dt_X12_isLattice 46 (76, .istore_n 2, 1) rfl) (by decide) ?_
                    refine y_iinc (dtk dt_X12_isLattice 47 (77, .iinc 4 1, 3) rfl) rfl (by decide) ⟨by omega, by omega⟩ ?_
                    refine x_goto (tgt := 30) (dtk dt_X12_isLattice 48 (80, .goto (-50), 3) rfl) (by decide) ?_
                    refine MW.sub [2, 3, 1, 4, 0] rfl ?_
                    exact ih30 _ (by omega) false _ (by omega) (by clear ih17 ih30; rw [allB_s (by omega), ← Bool.and_assoc, ← h4]; simp_all) rfl
                  · skip
                    refine x_aload_n (dtk dt_X12_isLattice 35 (58, .aload_n 0, 1) rfl) rfl ?_
                    refine x_iload_n (dtk dt_X12_isLattice 36 (59, .iload_n 1, 1) rfl) rfl ?_
                    refine x_iload_n (dtk dt_X12_isLattice 37 (60, .iload_n 3, 1) rfl) rfl ?_
                    refine x_iload (dtk dt_X12_isLattice 38 (61, .iload 4, 2) rfl) rfl ?_
                    refine x_iconst (v := 1) ⟨by decide, by decide⟩ (dtk dt_X12_isLattice 39 (63, .iconst 1, 1) rfl) ?_
                    refine kc_X12_205 rfl (dtk dt_X12_isLattice 40 (64, .invokevirtual 205, 3) rfl) (c_X12_bound0 (G := G)  hA (by omega) (by omega)) rfl rfl (wk_36 hA.wf) (fitR (by decide) (by decide)) (Nat.le_of_ble_eq_true rfl) (pqK ?_)
                    refine x_iconst (v := -1) ⟨by decide, by decide⟩ (dtk dt_X12_isLattice 41 (67, .iconst (-1), 1) rfl) ?_
                    refine x_icmp_eq (tgt := 75) (dtk dt_X12_isLattice 42 (68, .if_icmp .eq 7, 3) rfl) (by decide) (fun c68 => ?_) (fun c68 => ?_)
                    · skip
                      refine x_iconst (v := 0) ⟨by decide, by decide⟩ (dtk dt_X12_isLattice 45 (75, .iconst 0, 1) rfl) ?_
                      refine x_istore_n (dtk dt_X12_isLattice 46 (76, .istore_n 2, 1) rfl) (by decide) ?_
                      refine y_iinc (dtk dt_X12_isLattice 47 (77, .iinc 4 1, 3) rfl) rfl (by decide) ⟨by omega, by omega⟩ ?_
                      refine x_goto (tgt := 30) (dtk dt_X12_isLattice 48 (80, .goto (-50), 3) rfl) (by decide) ?_
                      refine MW.sub [2, 3, 1, 4, 0] rfl ?_
                      exact ih30 _ (by omega) false _ (by omega) (by clear ih17 ih30; rw [allB_s (by omega), ← Bool.and_assoc, ← h4]; simp_all) rfl
                    · skip
                      refine x_iconst (v := 1) ⟨by decide, by decide⟩ (dtk dt_X12_isLattice 43 (71, .iconst 1, 1) rfl) ?_
                      refine x_goto (tgt := 76) (dtk dt_X12_isLattice 44 (72, .goto 4, 3) rfl) (by decide) ?_
                      refine x_istore_n (dtk dt_X12_isLattice 46 (76, .istore_n 2, 1) rfl) (by decide) ?_
                      refine y_iinc (dtk dt_X12_isLattice 47 (77, .iinc 4 1, 3) rfl) rfl (by decide) ⟨by omega, by omega⟩ ?_
                      refine x_goto (tgt := 30) (dtk dt_X12_isLattice 48 (80, .goto (-50), 3) rfl) (by decide) ?_
                      refine MW.sub [2, 3, 1, 4, 0] rfl ?_
                      exact ih30 _ (by omega) true _ (by omega) (by clear ih17 ih30; rw [allB_s (by omega), ← Bool.and_assoc, ← h4]; simp_all) rfl
          refine MW.sub [1, 2, 3, 4, 0] rfl ?_
          exact L30 _ _ _ (by omega) (by rw [allB_0, Bool.and_true]) rfl
    refine MW.sub [2, 3, 1, 0] rfl ?_
    exact L17 _ _ _ (by omega) (by rw [hJ, allB_0, Bool.and_true]) rfl
  refine x_aload_n (dtk dt_X12_isLattice 0 (0, .aload_n 0, 1) rfl) rfl ?_
  refine fg_X12_13 rfl (dtk dt_X12_isLattice 1 (1, .getfield 13, 3) rfl) (wk_36 hA.wf) (wm_36_2 hA.wf) ?_
  refine x_iload_n (dtk dt_X12_isLattice 2 (4, .iload_n 1, 1) rfl) rfl ?_
  refine x_iald (dtk dt_X12_isLattice 3 (5, .iaload, 1) rfl) (wk_38 hA.wf) ⟨by omega, by omega⟩ ?_
  rw [hA.sz]
  refine x_if_le (tgt := 13) (dtk dt_X12_isLattice 4 (6, .ifCond .le 7, 3) rfl) (by decide) (fun c6 => ?_) (fun c6 => ?_)
  · skip
    refine x_iconst (v := 0) ⟨by decide, by decide⟩ (dtk dt_X12_isLattice 7 (13, .iconst 0, 1) rfl) ?_
    refine MW.sub [0, 1] rfl ?_
    exact J14_2 false (by simp; omega)
  · skip
    refine x_iconst (v := 1) ⟨by decide, by decide⟩ (dtk dt_X12_isLattice 5 (9, .iconst 1, 1) rfl) ?_
    refine x_goto (tgt := 14) (dtk dt_X12_isLattice 6 (10, .goto 4, 3) rfl) (by decide) ?_
    refine MW.sub [0, 1] rfl ?_
    exact J14_2 true (by simp; omega)
set_option maxRecDepth 100000 in
set_option maxHeartbeats 4000000 in
theorem c_X12_uneven0 {G : GG} {n : Nat} {K : KK} {M : MM} {o : Int} {m : Int} {d : Int → Int} (hA : AT K M o m d) (hL : latt m d = true) : MC G mi_X12_uneven0 5 0 0 [(1, 36), (0, o)] n K M (PQ (some (0, une m d)) n K (M)) := by
  refine MC.intro (lc := [(0, (1, 36)), (1, (0, o))]) (by decide) rfl (by simp [Nat.ble]) (Nat.le_of_ble_eq_true rfl) rfl (fun hMR => ?_)
  have ho := hA.2.1
  have hsz := hA.ok.1
  refine x_iconst (v := 0) ⟨by decide, by decide⟩ (dtk dt_X12_uneven0 0 (0, .iconst 0, 1) rfl) ?_
  refine x_istore_n (dtk dt_X12_uneven0 1 (1, .istore_n 2, 1) rfl) (by decide) ?_
  have L2 : ∀ (fu : Nat) (v2 : Int), (0 ≤ v2 ∧ v2 ≤ m) → (rs m (fun a => rs m (fun b => rs m (fun c => une3 m d a b c) 0) 0) v2 = une m d) → (m - v2).toNat = fu → MW G mi_X12_uneven0 (rmd 5 0 0) (MZ G (PQ (some (0, une m d)) n K (M)) 0 0) (0, 0) 2 [(0, (1, 36)), (1, (0, o)), (2, (0, v2))] [] n K (M) := by
    intro fu
    induction fu using Nat.strongRecOn with
    | ind fu ih2 =>
      intro v2 h1 h2 hk2
      refine x_iload_n (dtk dt_X12_uneven0 2 (2, .iload_n 2, 1) rfl) rfl ?_
      refine x_aload_n (dtk dt_X12_uneven0 3 (3, .aload_n 0, 1) rfl) rfl ?_
      refine fg_X12_13 rfl (dtk dt_X12_uneven0 4 (4, .getfield 13, 3) rfl) (wk_36 hA.wf) (wm_36_2 hA.wf) ?_
      refine x_iload_n (dtk dt_X12_uneven0 5 (7, .iload_n 1, 1) rfl) rfl ?_
      refine x_iald (dtk dt_X12_uneven0 6 (8, .iaload, 1) rfl) (wk_38 hA.wf) ⟨by omega, by omega⟩ ?_
      rw [hA.sz]
      refine x_icmp_ge (tgt := 119) (dtk dt_X12_uneven0 7 (9, .if_icmp .ge 110, 3) rfl) (by decide) (fun c9 => ?_) (fun c9 => ?_)
      · skip
        refine x_iconst (v := -1) ⟨by decide, by decide⟩ (dtk dt_X12_uneven0 72 (119, .iconst (-1), 1) rfl) ?_
        exact r_i (dtk dt_X12_uneven0 73 (120, .ireturn, 1) rfl) rfl (by rw [rs_e (by omega)] at h2; exact h2) rfl
      · skip
        refine x_iconst (v := 0) ⟨by decide, by decide⟩ (dtk dt_X12_uneven0 8 (12, .iconst 0, 1) rfl) ?_
        refine x_istore_n (dtk dt_X12_uneven0 9 (13, .istore_n 3, 1) rfl) (by decide) ?_
        have L14 : ∀ (fu : Nat) (v3 : Int), (0 ≤ v3 ∧ v3 ≤ m) → (oe (rs m (fun b => rs m (fun c => une3 m d v2 b c) 0) v3) (rs m (fun a => rs m (fun b => rs m (fun c => une3 m d a b c) 0) 0) (v2 + 1)) = une m d) → (m - v3).toNat = fu → MW G mi_X12_uneven0 (rmd 5 0 0) (MZ G (PQ (some (0, une m d)) n K (M)) 0 0) (0, 0) 14 [(0, (1, 36)), (1, (0, o)), (2, (0, v2)), (3, (0, v3))] [] n K (M) := by
          intro fu
          induction fu using Nat.strongRecOn with
          | ind fu ih14 =>
            intro v3 h3 h4 hk14
            refine x_iload_n (dtk dt_X12_uneven0 10 (14, .iload_n 3, 1) rfl) rfl ?_
            refine x_aload_n (dtk dt_X12_uneven0 11 (15, .aload_n 0, 1) rfl) rfl ?_
            refine fg_X12_13 rfl (dtk dt_X12_uneven0 12 (16, .getfield 13, 3) rfl) (wk_36 hA.wf) (wm_36_2 hA.wf) ?_
            refine x_iload_n (dtk dt_X12_uneven0 13 (19, .iload_n 1, 1) rfl) rfl ?_
            refine x_iald (dtk dt_X12_uneven0 14 (20, .iaload, 1) rfl) (wk_38 hA.wf) ⟨by omega, by omega⟩ ?_
            rw [hA.sz]
            refine x_icmp_ge (tgt := 113) (dtk dt_X12_uneven0 15 (21, .if_icmp .ge 92, 3) rfl) (by decide) (fun c21 => ?_) (fun c21 => ?_)
            · skip
              refine y_iinc (dtk dt_X12_uneven0 70 (113, .iinc 2 1, 3) rfl) rfl (by decide) ⟨by omega, by omega⟩ ?_
              refine x_goto (tgt := 2) (dtk dt_X12_uneven0 71 (116, .goto (-114), 3) rfl) (by decide) ?_
              refine MW.sub [1, 2, 0] rfl ?_
              exact ih2 _ (by omega) _ (by omega) (by rw [rs_e (by omega), oe_m] at h4; exact h4) rfl
            · skip
              refine x_iconst (v := 0) ⟨by decide, by decide⟩ (dtk dt_X12_uneven0 16 (24, .iconst 0, 1) rfl) ?_
              refine x_istore (dtk dt_X12_uneven0 17 (25, .istore 4, 2) rfl) (by decide) ?_
              have L27 : ∀ (fu : Nat) (v4 : Int), (0 ≤ v4 ∧ v4 ≤ m) → (oe (rs m (fun c => une3 m d v2 v3 c) v4) (oe (rs m (fun b => rs m (fun c => une3 m d v2 b c) 0) (v3 + 1)) (rs m (fun a => rs m (fun b => rs m (fun c => une3 m d a b c) 0) 0) (v2 + 1))) = une m d) → (m - v4).toNat = fu → MW G mi_X12_uneven0 (rmd 5 0 0) (MZ G (PQ (some (0, une m d)) n K (M)) 0 0) (0, 0) 27 [(0, (1, 36)), (1, (0, o)), (2, (0, v2)), (3, (0, v3)), (4, (0, v4))] [] n K (M) := by
                intro fu
                induction fu using Nat.strongRecOn with
                | ind fu ih27 =>
                  intro v4 h5 h6 hk27
                  refine x_iload (dtk dt_X12_uneven0 18 (27, .iload 4, 2) rfl) rfl ?_
                  refine x_aload_n (dtk dt_X12_uneven0 19 (29, .aload_n 0, 1) rfl) rfl ?_
                  refine fg_X12_13 rfl (dtk dt_X12_uneven0 20 (30, .getfield 13, 3) rfl) (wk_36 hA.wf) (wm_36_2 hA.wf) ?_
                  refine x_iload_n (dtk dt_X12_uneven0 21 (33, .iload_n 1, 1) rfl) rfl ?_
                  refine x_iald (dtk dt_X12_uneven0 22 (34, .iaload, 1) rfl) (wk_38 hA.wf) ⟨by omega, by omega⟩ ?_
                  rw [hA.sz]
                  refine x_icmp_ge (tgt := 107) (dtk dt_X12_uneven0 23 (35, .if_icmp .ge 72, 3) rfl) (by decide) (fun c35 => ?_) (fun c35 => ?_)
                  · skip
                    refine y_iinc (dtk dt_X12_uneven0 68 (107, .iinc 3 1, 3) rfl) rfl (by decide) ⟨by omega, by omega⟩ ?_
                    refine x_goto (tgt := 14) (dtk dt_X12_uneven0 69 (110, .goto (-96), 3) rfl) (by decide) ?_
                    refine MW.sub [1, 2, 3, 0] rfl ?_
                    exact ih14 _ (by omega) _ (by omega) (by rw [rs_e (by omega), oe_m] at h6; exact h6) rfl
                  · skip
                    have b1 := latt_bd hL (a := v3) (b := v4) (by omega) (by omega) (Or.inl rfl)
                    have b2 := latt_bd hL (a := v2) (b := v3) (by omega) (by omega) (Or.inr rfl)
                    have b3 := latt_bd hL (a := v2) (b := v4) (by omega) (by omega) (Or.inr rfl)
                    refine x_aload_n (dtk dt_X12_uneven0 24 (38, .aload_n 0, 1) rfl) rfl ?_
                    refine x_iload_n (dtk dt_X12_uneven0 25 (39, .iload_n 1, 1) rfl) rfl ?_
                    refine x_iload_n (dtk dt_X12_uneven0 26 (40, .iload_n 2, 1) rfl) rfl ?_
                    refine x_aload_n (dtk dt_X12_uneven0 27 (41, .aload_n 0, 1) rfl) rfl ?_
                    refine x_iload_n (dtk dt_X12_uneven0 28 (42, .iload_n 1, 1) rfl) rfl ?_
                    refine x_iload_n (dtk dt_X12_uneven0 29 (43, .iload_n 3, 1) rfl) rfl ?_
                    refine x_iload (dtk dt_X12_uneven0 30 (44, .iload 4, 2) rfl) rfl ?_
                    refine x_iconst (v := 0) ⟨by decide, by decide⟩ (dtk dt_X12_uneven0 31 (46, .iconst 0, 1) rfl) ?_
                    refine kc_X12_205 rfl (dtk dt_X12_uneven0 32 (47, .invokevirtual 205, 3) rfl) (c_X12_bound0 (G := G)  hA (by omega) (by omega)) rfl rfl (wk_36 hA.wf) (fitR (by decide) (by decide)) (Nat.le_of_ble_eq_true rfl) (pqK ?_)
                    refine x_iconst (v := 1) ⟨by decide, by decide⟩ (dtk dt_X12_uneven0 33 (50, .iconst 1, 1) rfl) ?_
                    refine kc_X12_205 rfl (dtk dt_X12_uneven0 34 (51, .invokevirtual 205, 3) rfl) (c_X12_bound0 (G := G)  hA (by omega) (by omega)) rfl rfl (wk_36 hA.wf) (fitR (by decide) (by decide)) (Nat.le_of_ble_eq_true rfl) (pqK ?_)
                    refine x_istore (dtk dt_X12_uneven0 35 (54, .istore 5, 2) rfl) (by decide) ?_
                    refine x_aload_n (dtk dt_X12_uneven0 36 (56, .aload_n 0, 1) rfl) rfl ?_
                    refine x_iload_n (dtk dt_X12_uneven0 37 (57, .iload_n 1, 1) rfl) rfl ?_
                    refine x_aload_n (dtk dt_X12_uneven0 38 (58, .aload_n 0, 1) rfl) rfl ?_
                    refine x_iload_n (dtk dt_X12_uneven0 39 (59, .iload_n 1, 1) rfl) rfl ?_
                    refine x_iload_n (dtk dt_X12_uneven0 40 (60, .iload_n 2, 1) rfl) rfl ?_
                    refine x_iload_n (dtk dt_X12_uneven0 41 (61, .iload_n 3, 1) rfl) rfl ?_
                    refine x_iconst (v := 1) ⟨by decide, by decide⟩ (dtk dt_X12_uneven0 42 (62, .iconst 1, 1) rfl) ?_
                    refine kc_X12_205 rfl (dtk dt_X12_uneven0 43 (63, .invokevirtual 205, 3) rfl) (c_X12_bound0 (G := G)  hA (by omega) (by omega)) rfl rfl (wk_36 hA.wf) (fitR (by decide) (by decide)) (Nat.le_of_ble_eq_true rfl) (pqK ?_)
                    refine x_aload_n (dtk dt_X12_uneven0 44 (66, .aload_n 0, 1) rfl) rfl ?_
                    refine x_iload_n (dtk dt_X12_uneven0 45 (67, .iload_n 1, 1) rfl) rfl ?_
                    refine x_iload_n (dtk dt_X12_uneven0 46 (68, .iload_n 2, 1) rfl) rfl ?_
                    refine x_iload (dtk dt_X12_uneven0 47 (69, .iload 4, 2) rfl) rfl ?_
                    refine x_iconst (v := 1) ⟨by decide, by decide⟩ (dtk dt_X12_uneven0 48 (71, .iconst 1, 1) rfl) ?_
                    refine kc_X12_205 rfl (dtk dt_X12_uneven0 49 (72, .invokevirtual 205, 3) rfl) (c_X12_bound0 (G := G)  hA (by omega) (by omega)) rfl rfl (wk_36 hA.wf) (fitR (by decide) (by decide)) (Nat.le_of_ble_eq_true rfl) (pqK ?_)
                    refine x_iconst (v := 0) ⟨by decide, by decide⟩ (dtk dt_X12_uneven0 50 (75, .iconst 0, 1) rfl) ?_
                    refine kc_X12_205 rfl (dtk dt_X12_uneven0 51 (76, .invokevirtual 205, 3) rfl) (c_X12_bound0 (G := G)  hA (by omega) (by omega)) rfl rfl (wk_36 hA.wf) (fitR (by decide) (by decide)) (Nat.le_of_ble_eq_true rfl) (pqK ?_)
                    refine x_istore (dtk dt_X12_uneven0 52 (79, .istore 6, 2) rfl) (by decide) ?_
                    refine x_iload (dtk dt_X12_uneven0 53 (81, .iload 5, 2) rfl) rfl ?_
                    refine x_iload (dtk dt_X12_uneven0 54 (83, .iload 6, 2) rfl) rfl ?_
                    refine x_icmp_eq (tgt := 101) (dtk dt_X12_uneven0 55 (85, .if_icmp .eq 16, 3) rfl) (by decide) (fun c85 => ?_) (fun c85 => ?_)
                    · skip
                      refine y_iinc (dtk dt_X12_uneven0 66 (101, .iinc 4 1, 3) rfl) rfl (by decide) ⟨by omega, by omega⟩ ?_
                      refine x_goto (tgt := 27) (dtk dt_X12_uneven0 67 (104, .goto (-77), 3) rfl) (by decide) ?_
                      refine MW.sub [3, 4, 5, 6, 0] rfl ?_
                      exact ih27 _ (by omega) _ (by omega) (by rw [rs_s (by omega), une3, if_pos c85, oe_m] at h6; exact h6) rfl
                    · skip
                      refine x_bipush (v := 100) ⟨by decide, by decide⟩ (dtk dt_X12_uneven0 56 (88, .bipush 100, 2) rfl) ?_
                      refine x_iload_n (dtk dt_X12_uneven0 57 (90, .iload_n 2, 1) rfl) rfl ?_
                      refine y_imul (dtk dt_X12_uneven0 58 (91, .imul, 1) rfl) ⟨by omega, by omega⟩ ?_
                      refine x_bipush (v := 10) ⟨by decide, by decide⟩ (dtk dt_X12_uneven0 59 (92, .bipush 10, 2) rfl) ?_
                      refine x_iload_n (dtk dt_X12_uneven0 60 (94, .iload_n 3, 1) rfl) rfl ?_
                      refine y_imul (dtk dt_X12_uneven0 61 (95, .imul, 1) rfl) ⟨by omega, by omega⟩ ?_
                      refine y_iadd (dtk dt_X12_uneven0 62 (96, .iadd, 1) rfl) ⟨by omega, by omega⟩ ?_
                      refine x_iload (dtk dt_X12_uneven0 63 (97, .iload 4, 2) rfl) rfl ?_
                      refine y_iadd (dtk dt_X12_uneven0 64 (99, .iadd, 1) rfl) ⟨by omega, by omega⟩ ?_
                      exact r_i (dtk dt_X12_uneven0 65 (100, .ireturn, 1) rfl) rfl (by rw [rs_s (by omega), une3, if_neg c85, oe_n (x := 100 * v2 + 10 * v3 + v4) (by omega), oe_n (x := 100 * v2 + 10 * v3 + v4) (by omega)] at h6; exact h6) rfl
              refine MW.sub [1, 2, 3, 4, 0] rfl ?_
              exact L27 _ _ (by omega) (by rw [rs_s (by omega), oe_as] at h4; exact h4) rfl
        refine MW.sub [1, 2, 3, 0] rfl ?_
        exact L14 _ _ (by omega) (by rw [rs_s (by omega)] at h2; exact h2) rfl
  refine MW.sub [1, 2, 0] rfl ?_
  exact L2 _ _ (by omega) rfl rfl
