/-! ===== the model: the hand ===== -/
set_option maxRecDepth 100000 in
set_option maxHeartbeats 4000000 in
theorem c_X12_placeOf {G : GG} {n : Nat} {K : KK} {M : MM} {t q : Int} (hw : WF K M) (hq : 0 ≤ q ∧ q ≤ 10) (hx : plc q (M 50) t ≠ -1) : MC G mi_X12_placeOf 1 0 0 [(1, 36), (0, t)] n K M (PQ (some (0, plc q (M 50) t)) n K (M)) := by
  refine MC.intro (lc := [(0, (1, 36)), (1, (0, t))]) (by decide) rfl (by simp [Nat.ble]) (Nat.le_of_ble_eq_true rfl) rfl (fun hMR => ?_)
  refine x_iconst (v := 0) ⟨by decide, by decide⟩ (dtk dt_X12_placeOf 0 (0, .iconst 0, 1) rfl) ?_
  refine x_istore_n (dtk dt_X12_placeOf 1 (1, .istore_n 2, 1) rfl) (by decide) ?_
  have L2 : ∀ (fu : Nat) (v2 : Int), (0 ≤ v2 ∧ v2 ≤ q) → (rs q (fun k => if M 50 k = t then k else -1) v2 = plc q (M 50) t) → (q - v2).toNat = fu → MW G mi_X12_placeOf (rmd 1 0 0) (MZ G (PQ (some (0, plc q (M 50) t)) n K (M)) 0 0) (0, 0) 2 [(0, (1, 36)), (1, (0, t)), (2, (0, v2))] [] n K (M) := by
    intro fu
    induction fu using Nat.strongRecOn with
    | ind fu ih2 =>
      intro v2 h1 h2 hk2
      have hlt : v2 < q := by (by_cases hz : v2 < q; exact hz; (rw [rs_e (by omega)] at h2; exact absurd h2.symm hx))
      refine x_aload_n (dtk dt_X12_placeOf 2 (2, .aload_n 0, 1) rfl) rfl ?_
      refine fg_X12_53 rfl (dtk dt_X12_placeOf 3 (3, .getfield 53, 3) rfl) (wk_36 hw) (wm_36_19 hw) ?_
      refine x_iload_n (dtk dt_X12_placeOf 4 (6, .iload_n 2, 1) rfl) rfl ?_
      refine x_iald (dtk dt_X12_placeOf 5 (7, .iaload, 1) rfl) (wk_50 hw) ⟨by omega, by omega⟩ ?_
      refine x_iload_n (dtk dt_X12_placeOf 6 (8, .iload_n 1, 1) rfl) rfl ?_
      refine x_icmp_eq (tgt := 18) (dtk dt_X12_placeOf 7 (9, .if_icmp .eq 9, 3) rfl) (by decide) (fun c9 => ?_) (fun c9 => ?_)
      · skip
        refine x_iload_n (dtk dt_X12_placeOf 10 (18, .iload_n 2, 1) rfl) rfl ?_
        exact r_i (dtk dt_X12_placeOf 11 (19, .ireturn, 1) rfl) rfl (by rw [rs_s (by omega), if_pos c9, oe_n (by omega)] at h2; exact h2) rfl
      · skip
        refine y_iinc (dtk dt_X12_placeOf 8 (12, .iinc 2 1, 3) rfl) rfl (by decide) ⟨by omega, by omega⟩ ?_
        refine x_goto (tgt := 2) (dtk dt_X12_placeOf 9 (15, .goto (-13), 3) rfl) (by decide) ?_
        refine MW.sub [1, 2, 0] rfl ?_
        exact ih2 _ (by omega) _ (by omega) (by rw [rs_s (by omega), if_neg c9, oe_m] at h2; exact h2) rfl
  refine MW.sub [1, 2, 0] rfl ?_
  exact L2 _ _ (by omega) rfl rfl
set_option maxRecDepth 100000 in
set_option maxHeartbeats 4000000 in
theorem c_X12_hand {G : GG} {n : Nat} {K : KK} {M : MM} {w : Int} (hm : MO K M) (hv : HV M) : MC G mi_X12_hand 6 0 0 [(1, 36), (0, w)] n K M (SQ (some (0, if (decide (0 ≤ w) && decide (w ≤ 2)) && decide (M 36 5 ≠ 0) then (if w = 2 then lkR (M 36 5) (dM M (M 36 4)) (M 40) 0 0 else if decide (0 < M 36 5) && decide (M 36 5 = M 38 (M 36 4)) && decide (lkR (M 36 5) (dM M (M 36 4)) (M 40) 0 0 = -1) then (if w = 0 then (rkS (M 38 (M 36 4)) (dM M (M 36 4)) (M 40) (M 36 5)).1 else jmp (dM M (M 36 4)) (M 40) (M 36 5)) else -1) else -1)) n K M (fun _ => True)) := by
  refine MC.intro (lc := [(0, (1, 36)), (1, (0, w))]) (by decide) rfl (by simp [Nat.ble]) (Nat.le_of_ble_eq_true rfl) rfl (fun hMR => ?_)
  have hh := hv.1
  have h00 := hm.2.1
  refine x_iload_n (dtk dt_X12_hand 0 (0, .iload_n 1, 1) rfl) rfl ?_
  refine x_iconst (v := 0) ⟨by decide, by decide⟩ (dtk dt_X12_hand 1 (1, .iconst 0, 1) rfl) ?_
  refine x_iconst (v := 2) ⟨by decide, by decide⟩ (dtk dt_X12_hand 2 (2, .iconst 2, 1) rfl) ?_
  refine kc_X12_74 rfl (dtk dt_X12_hand 3 (3, .invokestatic 74, 3) rfl) (c_X12_in (G := G)  ) rfl rfl (fitR (by decide) (by decide)) (Nat.le_of_ble_eq_true rfl) (pqK ?_)
  refine x_if_eqB (tgt := 16) (dtk dt_X12_hand 4 (6, .ifCond .eq 10, 3) rfl) (by decide) (fun c6 => ?_) (fun c6 => ?_)
  · skip
    refine x_iconst (v := -1) ⟨by decide, by decide⟩ (dtk dt_X12_hand 8 (16, .iconst (-1), 1) rfl) ?_
    exact rs_i (dtk dt_X12_hand 9 (17, .ireturn, 1) rfl) rfl (by rw [if_neg (by simp_all <;> omega)]) sc.rf trivial
  · skip
    refine x_aload_n (dtk dt_X12_hand 5 (9, .aload_n 0, 1) rfl) rfl ?_
    refine fg_X12_139 rfl (dtk dt_X12_hand 6 (10, .getfield 139, 3) rfl) (wk_36 hm.1) rfl ?_
    refine x_if_ne (tgt := 18) (dtk dt_X12_hand 7 (13, .ifCond .ne 5, 3) rfl) (by decide) (fun c13 => ?_) (fun c13 => ?_)
    · skip
      have hp : 0 < M 36 5 := by omega
      have h01 := hv.2.1 hp
      have ho : 0 ≤ M 36 4 ∧ M 36 4 < 8 := by omega
      have hsz := hm.sz ho
      have hin : 0 ≤ w ∧ w ≤ 2 := by (simp at c6; omega)
      have hA : AT K M (M 36 4) (M 38 (M 36 4)) (dM M (M 36 4)) := ⟨hm, ho, rfl, rfl⟩
      refine x_iload_n (dtk dt_X12_hand 10 (18, .iload_n 1, 1) rfl) rfl ?_
      refine x_iconst (v := 2) ⟨by decide, by decide⟩ (dtk dt_X12_hand 11 (19, .iconst 2, 1) rfl) ?_
      refine x_icmp_ne (tgt := 28) (dtk dt_X12_hand 12 (20, .if_icmp .ne 8, 3) rfl) (by decide) (fun c20 => ?_) (fun c20 => ?_)
      · skip
        refine x_aload_n (dtk dt_X12_hand 16 (28, .aload_n 0, 1) rfl) rfl ?_
        refine kc_X12_253 rfl (dtk dt_X12_hand 17 (29, .invokevirtual 253, 3) rfl) (c_X12_isRowOut (G := G)  hm hv) rfl rfl (wk_36 hm.1) (fitR (by decide) (by decide)) (Nat.le_of_ble_eq_true rfl) (pqK ?_)
        refine x_if_neB (tgt := 37) (dtk dt_X12_hand 18 (32, .ifCond .ne 5, 3) rfl) (by decide) (fun c32 => ?_) (fun c32 => ?_)
        · skip
          refine x_iload_n (dtk dt_X12_hand 21 (37, .iload_n 1, 1) rfl) rfl ?_
          refine x_if_ne (tgt := 46) (dtk dt_X12_hand 22 (38, .ifCond .ne 8, 3) rfl) (by decide) (fun c38 => ?_) (fun c38 => ?_)
          · skip
            refine x_iconst (v := 0) ⟨by decide, by decide⟩ (dtk dt_X12_hand 26 (46, .iconst 0, 1) rfl) ?_
            refine x_istore_n (dtk dt_X12_hand 27 (47, .istore_n 2, 1) rfl) (by decide) ?_
            refine x_iconst (v := 1) ⟨by decide, by decide⟩ (dtk dt_X12_hand 28 (48, .iconst 1, 1) rfl) ?_
            refine x_istore_n (dtk dt_X12_hand 29 (49, .istore_n 3, 1) rfl) (by decide) ?_
            have L50 : ∀ (fu : Nat) (v2 : Int) (v3 : Int), (1 ≤ v3 ∧ v3 ≤ M 36 5) → (v2 = sumZ (v3 - 1) (fun k => B (!rel (dM M (M 36 4)) (M 40 k) (M 40 (k + 1))))) → (M 36 5 - v3).toNat = fu → MW G mi_X12_hand (rmd 6 0 0) (MZ G (SQ (some (0, if (decide (0 ≤ w) && decide (w ≤ 2)) && decide (M 36 5 ≠ 0) then (if w = 2 then lkR (M 36 5) (dM M (M 36 4)) (M 40) 0 0 else if decide (0 < M 36 5) && decide (M 36 5 = M 38 (M 36 4)) && decide (lkR (M 36 5) (dM M (M 36 4)) (M 40) 0 0 = -1) then (if w = 0 then (rkS (M 38 (M 36 4)) (dM M (M 36 4)) (M 40) (M 36 5)).1 else jmp (dM M (M 36 4)) (M 40) (M 36 5)) else -1) else -1)) n K M (fun _ => True)) 0 0) (0, 0) 50 [(0, (1, 36)), (1, (0, w)), (2, (0, v2)), (3, (0, v3))] [] n K (M) := by
              intro fu
              induction fu using Nat.strongRecOn with
              | ind fu ih50 =>
                intro v2 v3 h1 h2 hk50
                have hb := sumZ_b01 (n := v3 - 1) (by omega) (fun k => !rel (dM M (M 36 4)) (M 40 k) (M 40 (k + 1)))
                rw [← h2] at hb
                refine x_iload_n (dtk dt_X12_hand 30 (50, .iload_n 3, 1) rfl) rfl ?_
                refine x_aload_n (dtk dt_X12_hand 31 (51, .aload_n 0, 1) rfl) rfl ?_
                refine fg_X12_139 rfl (dtk dt_X12_hand 32 (52, .getfield 139, 3) rfl) (wk_36 hm.1) rfl ?_
                refine x_icmp_ge (tgt := 97) (dtk dt_X12_hand 33 (55, .if_icmp .ge 42, 3) rfl) (by decide) (fun c55 => ?_) (fun c55 => ?_)
                · skip
                  refine x_iload_n (dtk dt_X12_hand 57 (97, .iload_n 2, 1) rfl) rfl ?_
                  exact rs_i (dtk dt_X12_hand 58 (98, .ireturn, 1) rfl) rfl (by rw [if_pos (by simp_all; try omega), if_neg (by omega), if_pos c32, if_neg (by omega), h2, show v3 = M 36 5 by omega]; rfl) sc.rf trivial
                · skip
                  have k1 := hv.2.2.1 (v3 - 1) (by omega) (by omega)
                  have k2 := hv.2.2.1 v3 (by omega) (by omega)
                  refine x_iload_n (dtk dt_X12_hand 34 (58, .iload_n 2, 1) rfl) rfl ?_
                  refine x_aload_n (dtk dt_X12_hand 35 (59, .aload_n 0, 1) rfl) rfl ?_
                  refine x_aload_n (dtk dt_X12_hand 36 (60, .aload_n 0, 1) rfl) rfl ?_
                  refine fg_X12_19 rfl (dtk dt_X12_hand 37 (61, .getfield 19, 3) rfl) (wk_36 hm.1) rfl ?_
                  refine x_aload_n (dtk dt_X12_hand 38 (64, .aload_n 0, 1) rfl) rfl ?_
                  refine fg_X12_23 rfl (dtk dt_X12_hand 39 (65, .getfield 23, 3) rfl) (wk_36 hm.1) (wm_36_6 hm.1) ?_
                  refine x_iload_n (dtk dt_X12_hand 40 (68, .iload_n 3, 1) rfl) rfl ?_
                  refine x_iconst (v := 1) ⟨by decide, by decide⟩ (dtk dt_X12_hand 41 (69, .iconst 1, 1) rfl) ?_
                  refine y_isub (dtk dt_X12_hand 42 (70, .isub, 1) rfl) ⟨by omega, by omega⟩ ?_
                  refine x_iald (dtk dt_X12_hand 43 (71, .iaload, 1) rfl) (wk_40 hm.1) ⟨by omega, by omega⟩ ?_
                  refine x_aload_n (dtk dt_X12_hand 44 (72, .aload_n 0, 1) rfl) rfl ?_
                  refine fg_X12_23 rfl (dtk dt_X12_hand 45 (73, .getfield 23, 3) rfl) (wk_36 hm.1) (wm_36_6 hm.1) ?_
                  refine x_iload_n (dtk dt_X12_hand 46 (76, .iload_n 3, 1) rfl) rfl ?_
                  refine x_iald (dtk dt_X12_hand 47 (77, .iaload, 1) rfl) (wk_40 hm.1) ⟨by omega, by omega⟩ ?_
                  refine kc_X12_86 rfl (dtk dt_X12_hand 48 (78, .invokevirtual 86, 3) rfl) (c_X12_isBelow (G := G)  hA (by omega) (by omega)) rfl rfl (wk_36 hm.1) (fitR (by decide) (by decide)) (Nat.le_of_ble_eq_true rfl) (pqK ?_)
                  refine x_if_eqB (tgt := 88) (dtk dt_X12_hand 49 (81, .ifCond .eq 7, 3) rfl) (by decide) (fun c81 => ?_) (fun c81 => ?_)
                  · skip
                    refine x_iconst (v := 1) ⟨by decide, by decide⟩ (dtk dt_X12_hand 52 (88, .iconst 1, 1) rfl) ?_
                    refine y_iadd (dtk dt_X12_hand 53 (89, .iadd, 1) rfl) ⟨by omega, by omega⟩ ?_
                    refine x_istore_n (dtk dt_X12_hand 54 (90, .istore_n 2, 1) rfl) (by decide) ?_
                    refine y_iinc (dtk dt_X12_hand 55 (91, .iinc 3 1, 3) rfl) rfl (by decide) ⟨by omega, by omega⟩ ?_
                    refine x_goto (tgt := 50) (dtk dt_X12_hand 56 (94, .goto (-44), 3) rfl) (by decide) ?_
                    refine MW.sub [2, 3, 1, 0] rfl ?_
                    exact ih50 _ (by omega) _ _ (by omega) (by rw [show v3 + 1 - 1 = (v3 - 1) + 1 by omega, sumZ_s (by omega), ← h2, show v3 - 1 + 1 = v3 by omega]; clear ih50; simp_all [B]) rfl
                  · skip
                    refine x_iconst (v := 0) ⟨by decide, by decide⟩ (dtk dt_X12_hand 50 (84, .iconst 0, 1) rfl) ?_
                    refine x_goto (tgt := 89) (dtk dt_X12_hand 51 (85, .goto 4, 3) rfl) (by decide) ?_
                    refine y_iadd (dtk dt_X12_hand 53 (89, .iadd, 1) rfl) ⟨by omega, by omega⟩ ?_
                    refine x_istore_n (dtk dt_X12_hand 54 (90, .istore_n 2, 1) rfl) (by decide) ?_
                    refine y_iinc (dtk dt_X12_hand 55 (91, .iinc 3 1, 3) rfl) rfl (by decide) ⟨by omega, by omega⟩ ?_
                    refine x_goto (tgt := 50) (dtk dt_X12_hand 56 (94, .goto (-44), 3) rfl) (by decide) ?_
                    refine MW.sub [2, 3, 1, 0] rfl ?_
                    exact ih50 _ (by omega) _ _ (by omega) (by rw [show v3 + 1 - 1 = (v3 - 1) + 1 by omega, sumZ_s (by omega), ← h2, show v3 - 1 + 1 = v3 by omega]; clear ih50; simp_all [B]) rfl
            refine MW.sub [2, 3, 1, 0] rfl ?_
            exact L50 _ _ _ (by omega) rfl rfl
          · skip
            refine x_aload_n (dtk dt_X12_hand 23 (41, .aload_n 0, 1) rfl) rfl ?_
            refine kc_X12_257 rfl (dtk dt_X12_hand 24 (42, .invokevirtual 257, 3) rfl) (c_X12_rank (G := G)  hm hv (by omega)) rfl rfl (wk_36 hm.1) (fitR (by decide) (by decide)) (Nat.le_of_ble_eq_true rfl) (sqK (fun M42_1 hs42_1 hE42_1 => ?_))
            exact rs_i (dtk dt_X12_hand 25 (45, .ireturn, 1) rfl) rfl (by rw [if_pos (by simp_all; try omega), if_neg (by omega), if_pos c32, if_pos (by omega)]) hs42_1 trivial
        · skip
          refine x_iconst (v := -1) ⟨by decide, by decide⟩ (dtk dt_X12_hand 19 (35, .iconst (-1), 1) rfl) ?_
          exact rs_i (dtk dt_X12_hand 20 (36, .ireturn, 1) rfl) rfl (by rw [if_pos (by simp_all; try omega), if_neg (by omega), if_neg (by rw [c32]; decide)]) sc.rf trivial
      · skip
        refine x_aload_n (dtk dt_X12_hand 13 (23, .aload_n 0, 1) rfl) rfl ?_
        refine kc_X12_249 rfl (dtk dt_X12_hand 14 (24, .invokevirtual 249, 3) rfl) (c_X12_lacking (G := G)  hm hv (by omega)) rfl rfl (wk_36 hm.1) (fitR (by decide) (by decide)) (Nat.le_of_ble_eq_true rfl) (pqK ?_)
        exact rs_i (dtk dt_X12_hand 15 (27, .ireturn, 1) rfl) rfl (by rw [if_pos (by simp_all; try omega), if_pos (by omega)]) sc.rf trivial
    · skip
      refine x_iconst (v := -1) ⟨by decide, by decide⟩ (dtk dt_X12_hand 8 (16, .iconst (-1), 1) rfl) ?_
      exact rs_i (dtk dt_X12_hand 9 (17, .ireturn, 1) rfl) rfl (by rw [if_neg (by simp_all <;> omega)]) sc.rf trivial
set_option maxRecDepth 100000 in
set_option maxHeartbeats 4000000 in
theorem c_X12_unlike {G : GG} {n : Nat} {K : KK} {M : MM} {rk : Int} (hm : MO K M) (hv : HV M) : MC G mi_X12_unlike 6 0 0 [(1, 36), (0, rk)] n K M (SQ (some (0, if (decide (0 < M 36 5) && decide (M 36 5 = M 38 (M 36 4)) && decide (lkR (M 36 5) (dM M (M 36 4)) (M 40) 0 0 = -1)) && (decide (0 ≤ rk) && decide (rk < tl (M 38 (M 36 4)) (dM M (M 36 4)) 0)) then unl (M 38 (M 36 4)) (M 40) (fdO (M 38 (M 36 4)) (dM M (M 36 4)) rk) else -1)) n K M (fun _ => True)) := by
  refine MC.intro (lc := [(0, (1, 36)), (1, (0, rk))]) (by decide) rfl (by simp [Nat.ble]) (Nat.le_of_ble_eq_true rfl) rfl (fun hMR => ?_)
  have hh := hv.1
  have h00 := hm.2.1
  refine x_aload_n (dtk dt_X12_unlike 0 (0, .aload_n 0, 1) rfl) rfl ?_
  refine kc_X12_253 rfl (dtk dt_X12_unlike 1 (1, .invokevirtual 253, 3) rfl) (c_X12_isRowOut (G := G)  hm hv) rfl rfl (wk_36 hm.1) (fitR (by decide) (by decide)) (Nat.le_of_ble_eq_true rfl) (pqK ?_)
  refine x_if_eqB (tgt := 19) (dtk dt_X12_unlike 2 (4, .ifCond .eq 15, 3) rfl) (by decide) (fun c4 => ?_) (fun c4 => ?_)
  · skip
    refine x_iconst (v := -1) ⟨by decide, by decide⟩ (dtk dt_X12_unlike 9 (19, .iconst (-1), 1) rfl) ?_
    exact rs_i (dtk dt_X12_unlike 10 (20, .ireturn, 1) rfl) rfl (by first | (rw [c16, Bool.and_false]; rfl) | (rw [c4, Bool.false_and]; rfl)) sc.rf trivial
  · skip
    have hro := c4
    simp only [Bool.and_eq_true, decide_eq_true_eq] at hro
    have hp : 0 < M 36 5 := hro.1.1
    have he : M 36 5 = M 38 (M 36 4) := hro.1.2
    have h01 := hv.2.1 hp
    have ho : 0 ≤ M 36 4 ∧ M 36 4 < 8 := by omega
    have hsz := hm.sz ho
    have hA : AT K M (M 36 4) (M 38 (M 36 4)) (dM M (M 36 4)) := ⟨hm, ho, rfl, rfl⟩
    refine x_aload_n (dtk dt_X12_unlike 3 (7, .aload_n 0, 1) rfl) rfl ?_
    refine x_aload_n (dtk dt_X12_unlike 4 (8, .aload_n 0, 1) rfl) rfl ?_
    refine fg_X12_19 rfl (dtk dt_X12_unlike 5 (9, .getfield 19, 3) rfl) (wk_36 hA.wf) rfl ?_
    refine x_iload_n (dtk dt_X12_unlike 6 (12, .iload_n 1, 1) rfl) rfl ?_
    refine kc_X12_152 rfl (dtk dt_X12_unlike 7 (13, .invokevirtual 152, 3) rfl) (c_X12_find (G := G)  hA) rfl rfl (wk_36 hA.wf) (fitR (by decide) (by decide)) (Nat.le_of_ble_eq_true rfl) (sqK (fun M13_1 hs13_1 hE13_1 => ?_))
    have hE := hE13_1
    have hs0 := hs13_1
    refine x_if_neB (tgt := 21) (dtk dt_X12_unlike 8 (16, .ifCond .ne 5, 3) rfl) (by decide) (fun c16 => ?_) (fun c16 => ?_)
    · skip
      have hrk : 0 ≤ rk ∧ rk < tl (M 38 (M 36 4)) (dM M (M 36 4)) 0 := by (simp at c16; omega)
      replace hE := hE c16
      have hpc : ∀ t, plc (M 38 (M 36 4)) (M13_1 50) t = plc (M 38 (M 36 4)) (fdO (M 38 (M 36 4)) (dM M (M 36 4)) rk) t := fun t => plc_congr hE t
      refine x_iconst (v := 0) ⟨by decide, by decide⟩ (dtk dt_X12_unlike 11 (21, .iconst 0, 1) rfl) ?_
      refine x_istore_n (dtk dt_X12_unlike 12 (22, .istore_n 2, 1) rfl) (by decide) ?_
      refine x_iconst (v := 0) ⟨by decide, by decide⟩ (dtk dt_X12_unlike 13 (23, .iconst 0, 1) rfl) ?_
      refine x_istore_n (dtk dt_X12_unlike 14 (24, .istore_n 3, 1) rfl) (by decide) ?_
      have L25 : ∀ (fu : Nat) (v2 : Int) (v3 : Int), (0 ≤ v3 ∧ v3 ≤ M 36 5) → (v2 = sumZ v3 (fun i => sumZ i (fun j => B (decide (plc (M 38 (M 36 4)) (fdO (M 38 (M 36 4)) (dM M (M 36 4)) rk) (M 40 i) < plc (M 38 (M 36 4)) (fdO (M 38 (M 36 4)) (dM M (M 36 4)) rk) (M 40 j)))))) → (M 36 5 - v3).toNat = fu → MW G mi_X12_unlike (rmd 6 0 0) (MZ G (SQ (some (0, if (decide (0 < M 36 5) && decide (M 36 5 = M 38 (M 36 4)) && decide (lkR (M 36 5) (dM M (M 36 4)) (M 40) 0 0 = -1)) && (decide (0 ≤ rk) && decide (rk < tl (M 38 (M 36 4)) (dM M (M 36 4)) 0)) then unl (M 38 (M 36 4)) (M 40) (fdO (M 38 (M 36 4)) (dM M (M 36 4)) rk) else -1)) n K M (fun _ => True)) 0 0) (0, 0) 25 [(0, (1, 36)), (1, (0, rk)), (2, (0, v2)), (3, (0, v3))] [] n K (M13_1) := by
        intro fu
        induction fu using Nat.strongRecOn with
        | ind fu ih25 =>
          intro v2 v3 h1 h2 hk25
          have hb := sumZ_b (n := v3) (L := 10) (f := fun i => sumZ i (fun j => B (decide (plc (M 38 (M 36 4)) (fdO (M 38 (M 36 4)) (dM M (M 36 4)) rk) (M 40 i) < plc (M 38 (M 36 4)) (fdO (M 38 (M 36 4)) (dM M (M 36 4)) rk) (M 40 j))))) h1.1 (fun c h0 h1 => by (have := sumZ_b01 h0 (fun j => decide (plc (M 38 (M 36 4)) (fdO (M 38 (M 36 4)) (dM M (M 36 4)) rk) (M 40 c) < plc (M 38 (M 36 4)) (fdO (M 38 (M 36 4)) (dM M (M 36 4)) rk) (M 40 j))); omega))
          rw [← h2] at hb
          refine x_iload_n (dtk dt_X12_unlike 15 (25, .iload_n 3, 1) rfl) rfl ?_
          refine x_aload_n (dtk dt_X12_unlike 16 (26, .aload_n 0, 1) rfl) rfl ?_
          refine fg_X12_139 rfl (dtk dt_X12_unlike 17 (27, .getfield 139, 3) rfl) (wk_36 hA.wf) (v := M 36 5) (by rw [hs0 36 (by omega)]) ?_
          refine x_icmp_ge (tgt := 86) (dtk dt_X12_unlike 18 (30, .if_icmp .ge 56, 3) rfl) (by decide) (fun c30 => ?_) (fun c30 => ?_)
          · skip
            refine x_iload_n (dtk dt_X12_unlike 47 (86, .iload_n 2, 1) rfl) rfl ?_
            exact rs_i (dtk dt_X12_unlike 48 (87, .ireturn, 1) rfl) rfl (by rw [if_pos (by rw [c4, c16]; rfl), h2, show v3 = M 36 5 by omega, he]; rfl) hs13_1 trivial
          · skip
            refine x_iconst (v := 0) ⟨by decide, by decide⟩ (dtk dt_X12_unlike 19 (33, .iconst 0, 1) rfl) ?_
            refine x_istore (dtk dt_X12_unlike 20 (34, .istore 4, 2) rfl) (by decide) ?_
            have L36 : ∀ (fu : Nat) (w2 : Int) (v4 : Int), (0 ≤ v4 ∧ v4 ≤ v3) → (w2 = v2 + sumZ v4 (fun j => B (decide (plc (M 38 (M 36 4)) (fdO (M 38 (M 36 4)) (dM M (M 36 4)) rk) (M 40 v3) < plc (M 38 (M 36 4)) (fdO (M 38 (M 36 4)) (dM M (M 36 4)) rk) (M 40 j))))) → (v3 - v4).toNat = fu → MW G mi_X12_unlike (rmd 6 0 0) (MZ G (SQ (some (0, if (decide (0 < M 36 5) && decide (M 36 5 = M 38 (M 36 4)) && decide (lkR (M 36 5) (dM M (M 36 4)) (M 40) 0 0 = -1)) && (decide (0 ≤ rk) && decide (rk < tl (M 38 (M 36 4)) (dM M (M 36 4)) 0)) then unl (M 38 (M 36 4)) (M 40) (fdO (M 38 (M 36 4)) (dM M (M 36 4)) rk) else -1)) n K M (fun _ => True)) 0 0) (0, 0) 36 [(0, (1, 36)), (1, (0, rk)), (2, (0, w2)), (3, (0, v3)), (4, (0, v4))] [] n K (M13_1) := by
              intro fu
              induction fu using Nat.strongRecOn with
              | ind fu ih36 =>
                intro w2 v4 h3 h4 hk36
                have hb2 := sumZ_b01 h3.1 (fun j => decide (plc (M 38 (M 36 4)) (fdO (M 38 (M 36 4)) (dM M (M 36 4)) rk) (M 40 v3) < plc (M 38 (M 36 4)) (fdO (M 38 (M 36 4)) (dM M (M 36 4)) rk) (M 40 j)))
                refine x_iload (dtk dt_X12_unlike 21 (36, .iload 4, 2) rfl) rfl ?_
                refine x_iload_n (dtk dt_X12_unlike 22 (38, .iload_n 3, 1) rfl) rfl ?_
                refine x_icmp_ge (tgt := 80) (dtk dt_X12_unlike 23 (39, .if_icmp .ge 41, 3) rfl) (by decide) (fun c39 => ?_) (fun c39 => ?_)
                · skip
                  refine y_iinc (dtk dt_X12_unlike 45 (80, .iinc 3 1, 3) rfl) rfl (by decide) ⟨by omega, by omega⟩ ?_
                  refine x_goto (tgt := 25) (dtk dt_X12_unlike 46 (83, .goto (-58), 3) rfl) (by decide) ?_
                  refine MW.sub [1, 2, 3, 0] rfl ?_
                  exact ih25 _ (by omega) _ _ (by omega) (by rw [sumZ_s h1.1, ← h2, h4, show v4 = v3 by omega]) rfl
                · skip
                  refine x_iload_n (dtk dt_X12_unlike 24 (42, .iload_n 2, 1) rfl) rfl ?_
                  refine x_aload_n (dtk dt_X12_unlike 25 (43, .aload_n 0, 1) rfl) rfl ?_
                  refine x_aload_n (dtk dt_X12_unlike 26 (44, .aload_n 0, 1) rfl) rfl ?_
                  refine fg_X12_23 rfl (dtk dt_X12_unlike 27 (45, .getfield 23, 3) rfl) (wk_36 hA.wf) (wm_36_6 (hA.off hs0).wf) ?_
                  refine x_iload (dtk dt_X12_unlike 28 (48, .iload 4, 2) rfl) rfl ?_
                  refine x_iald (dtk dt_X12_unlike 29 (50, .iaload, 1) rfl) (wk_40 hA.wf) ⟨by omega, by omega⟩ ?_
                  rw [hs0 40 (by omega)]
                  have k4 := hv.2.2.1 v4 (by omega) (by omega)
                  refine kc_X12_260 rfl (dtk dt_X12_unlike 30 (51, .invokevirtual 260, 3) rfl) (c_X12_placeOf (G := G) (q := M 38 (M 36 4)) (hA.off hs0).wf (by omega) (by rw [hpc]; exact plc_ne hsz hrk (by omega))) rfl rfl (wk_36 hA.wf) (fitR (by decide) (by decide)) (Nat.le_of_ble_eq_true rfl) (pqK ?_)
                  rw [hpc]
                  refine x_aload_n (dtk dt_X12_unlike 31 (54, .aload_n 0, 1) rfl) rfl ?_
                  refine x_aload_n (dtk dt_X12_unlike 32 (55, .aload_n 0, 1) rfl) rfl ?_
                  refine fg_X12_23 rfl (dtk dt_X12_unlike 33 (56, .getfield 23, 3) rfl) (wk_36 hA.wf) (wm_36_6 (hA.off hs0).wf) ?_
                  refine x_iload_n (dtk dt_X12_unlike 34 (59, .iload_n 3, 1) rfl) rfl ?_
                  refine x_iald (dtk dt_X12_unlike 35 (60, .iaload, 1) rfl) (wk_40 hA.wf) ⟨by omega, by omega⟩ ?_
                  rw [hs0 40 (by omega)]
                  have k3 := hv.2.2.1 v3 (by omega) (by omega)
                  refine kc_X12_260 rfl (dtk dt_X12_unlike 36 (61, .invokevirtual 260, 3) rfl) (c_X12_placeOf (G := G) (q := M 38 (M 36 4)) (hA.off hs0).wf (by omega) (by rw [hpc]; exact plc_ne hsz hrk (by omega))) rfl rfl (wk_36 hA.wf) (fitR (by decide) (by decide)) (Nat.le_of_ble_eq_true rfl) (pqK ?_)
                  rw [hpc]
                  refine x_icmp_le (tgt := 71) (dtk dt_X12_unlike 37 (64, .if_icmp .le 7, 3) rfl) (by decide) (fun c64 => ?_) (fun c64 => ?_)
                  · skip
                    refine x_iconst (v := 0) ⟨by decide, by decide⟩ (dtk dt_X12_unlike 40 (71, .iconst 0, 1) rfl) ?_
                    refine y_iadd (dtk dt_X12_unlike 41 (72, .iadd, 1) rfl) ⟨by omega, by omega⟩ ?_
                    refine x_istore_n (dtk dt_X12_unlike 42 (73, .istore_n 2, 1) rfl) (by decide) ?_
                    refine y_iinc (dtk dt_X12_unlike 43 (74, .iinc 4 1, 3) rfl) rfl (by decide) ⟨by omega, by omega⟩ ?_
                    refine x_goto (tgt := 36) (dtk dt_X12_unlike 44 (77, .goto (-41), 3) rfl) (by decide) ?_
                    refine MW.sub [2, 3, 1, 4, 0] rfl ?_
                    exact ih36 _ (by omega) _ _ (by omega) (by rw [sumZ_s h3.1, h4]; first | (rw [show decide (plc (M 38 (M 36 4)) (fdO (M 38 (M 36 4)) (dM M (M 36 4)) rk) (M 40 v3) < plc (M 38 (M 36 4)) (fdO (M 38 (M 36 4)) (dM M (M 36 4)) rk) (M 40 v4)) = true from by simp; omega]; show _ = _ + (_ + 1); omega) | (rw [show decide (plc (M 38 (M 36 4)) (fdO (M 38 (M 36 4)) (dM M (M 36 4)) rk) (M 40 v3) < plc (M 38 (M 36 4)) (fdO (M 38 (M 36 4)) (dM M (M 36 4)) rk) (M 40 v4)) = false from by simp; omega]; show _ = _ + (_ + 0); omega)) rfl
                  · skip
                    refine x_iconst (v := 1) ⟨by decide, by decide⟩ (dtk dt_X12_unlike 38 (67, .iconst 1, 1) rfl) ?_
                    refine x_goto (tgt := 72) (dtk dt_X12_unlike 39 (68, .goto 4, 3) rfl) (by decide) ?_
                    refine y_iadd (dtk dt_X12_unlike 41 (72, .iadd, 1) rfl) ⟨by omega, by omega⟩ ?_
                    refine x_istore_n (dtk dt_X12_unlike 42 (73, .istore_n 2, 1) rfl) (by decide) ?_
                    refine y_iinc (dtk dt_X12_unlike 43 (74, .iinc 4 1, 3) rfl) rfl (by decide) ⟨by omega, by omega⟩ ?_
                    refine x_goto (tgt := 36) (dtk dt_X12_unlike 44 (77, .goto (-41), 3) rfl) (by decide) ?_
                    refine MW.sub [2, 3, 1, 4, 0] rfl ?_
                    exact ih36 _ (by omega) _ _ (by omega) (by rw [sumZ_s h3.1, h4]; first | (rw [show decide (plc (M 38 (M 36 4)) (fdO (M 38 (M 36 4)) (dM M (M 36 4)) rk) (M 40 v3) < plc (M 38 (M 36 4)) (fdO (M 38 (M 36 4)) (dM M (M 36 4)) rk) (M 40 v4)) = true from by simp; omega]; show _ = _ + (_ + 1); omega) | (rw [show decide (plc (M 38 (M 36 4)) (fdO (M 38 (M 36 4)) (dM M (M 36 4)) rk) (M 40 v3) < plc (M 38 (M 36 4)) (fdO (M 38 (M 36 4)) (dM M (M 36 4)) rk) (M 40 v4)) = false from by simp; omega]; show _ = _ + (_ + 0); omega)) rfl
            refine MW.sub [1, 2, 3, 4, 0] rfl ?_
            exact L36 _ _ _ (by omega) (by rw [sumZ_0]; omega) rfl
      refine MW.sub [2, 3, 1, 0] rfl ?_
      exact L25 _ _ _ (by omega) rfl rfl
    · skip
      refine x_iconst (v := -1) ⟨by decide, by decide⟩ (dtk dt_X12_unlike 9 (19, .iconst (-1), 1) rfl) ?_
      exact rs_i (dtk dt_X12_unlike 10 (20, .ireturn, 1) rfl) rfl (by first | (rw [c16, Bool.and_false]; rfl) | (rw [c4, Bool.false_and]; rfl)) hs13_1 trivial
