/-! ===== the class: sheets that are read ===== -/
set_option maxRecDepth 100000 in
set_option maxHeartbeats 1000000 in
theorem c_X11_readShort {G : GG} {n : Nat} {K : KK} {M : MM} {k i : Int} (hw : WF K M) (hs : SF K M (28 + 2 * k)) (hsL : (M (28 + 2 * k) 1 = M 42 k ∧ M (28 + 2 * k) 2 = M 43 k) ∧ (-1 ≤ M 42 k ∧ M 42 k ≤ 2) ∧ (0 ≤ M 43 k ∧ M 43 k ≤ 20) ∧ ∀ i, 0 ≤ i → i < 20 → M (29 + 2 * k) i = M 44 (20 * k + i) ∧ 0 ≤ M 44 (20 * k + i) ∧ M 44 (20 * k + i) ≤ 100) (hk : 0 ≤ k ∧ k < 4) : MC G mi_X11_readShort 3 0 0 [(1, 0), (1, 28 + 2 * k), (0, i)] n K M (PQ (some (0, if rsW M k i = 0 then M 44 (20 * k + i) else -1)) n K (st2 M 0 11 (rsW M k i))) := by
  refine MC.intro (lc := [(0, (1, 0)), (1, (1, 28 + 2 * k)), (2, (0, i))]) (by decide) rfl (by simp [Nat.ble]) (Nat.le_of_ble_eq_true rfl) rfl (fun hMR => ?_)
  have hsz : 0 ≤ M (28 + 2 * k) 2 ∧ M (28 + 2 * k) 2 ≤ 20 := by (rw [hsL.1.2]; exact hsL.2.2.1)
  refine x_aload_n (dtk dt_X11_readShort 0 (0, .aload_n 1, 1) rfl) rfl ?_
  refine x_ifnonnull (tgt := 11) (dtk dt_X11_readShort 1 (1, .ifnonnull 10, 3) rfl) (by decide) (fun c1 => ?_) (fun c1 => ?_)
  rotate_left
  · exact absurd c1 (by omega)
  refine x_aload_n (dtk dt_X11_readShort 6 (11, .aload_n 1, 1) rfl) rfl ?_
  refine x_iconst (v := 1) ⟨by decide, by decide⟩ (dtk dt_X11_readShort 7 (12, .iconst 1, 1) rfl) ?_
  refine kc_X11_314 rfl (dtk dt_X11_readShort 8 (13, .invokevirtual 314, 3) rfl) (c_X8_whyNotOf (G := G)  hs) rfl rfl hs.1 (fitR (by decide) (by decide)) (Nat.le_of_ble_eq_true rfl) (pqK ?_)
  rw [hsL.1.1]
  refine x_istore_n (dtk dt_X11_readShort 9 (16, .istore_n 3, 1) rfl) (by decide) ?_
  have J32_2 : ∀ (j3 : Int), (j3 = rsW M k i) → MW G mi_X11_readShort (rmd 3 0 0) (MZ G (PQ (some (0, if rsW M k i = 0 then M 44 (20 * k + i) else -1)) n K (st2 M 0 11 (rsW M k i))) 0 0) (0, 0) 32 [(0, (1, 0)), (1, (1, 28 + 2 * k)), (2, (0, i)), (3, (0, j3))] [] n K (M) := by
    intro j3 hj
    refine x_iload_n (dtk dt_X11_readShort 18 (32, .iload_n 3, 1) rfl) rfl ?_
    refine x_if_ne (tgt := 48) (dtk dt_X11_readShort 19 (33, .ifCond .ne 15, 3) rfl) (by decide) (fun c33 => ?_) (fun c33 => ?_)
    · skip
      have hne : ¬ rsW M k i = 0 := fun h => c33 (hj.trans h)
      refine x_aload_n (dtk dt_X11_readShort 26 (48, .aload_n 0, 1) rfl) rfl ?_
      refine x_iload_n (dtk dt_X11_readShort 27 (49, .iload_n 3, 1) rfl) rfl ?_
      refine kc_X11_71 rfl (dtk dt_X11_readShort 28 (50, .invokevirtual 71, 3) rfl) (c_X11_refuse (G := G)  hw) rfl rfl (wk_0 hw) (fitR (by decide) (by decide)) (Nat.le_of_ble_eq_true rfl) (pqK ?_)
      exact r_i (dtk dt_X11_readShort 29 (53, .ireturn, 1) rfl) rfl (by first | (rw [if_neg hne]; done) | (rw [if_pos heq, if_pos hi2]; have z := (hsL.2.2.2 i hi2.1 (by have z := hsL.2.2.1; omega)).1; rw [show (28 : Int) + 2 * k + 1 = 29 + 2 * k by omega]; exact z)) (by first | (rw [hj]; done) | (rw [heq]))
    · skip
      have heq : rsW M k i = 0 := hj.symm.trans (Decidable.not_not.mp c33)
      have hi2 := rsW_0 heq
      refine x_aload_n (dtk dt_X11_readShort 20 (36, .aload_n 0, 1) rfl) rfl ?_
      refine x_aload_n (dtk dt_X11_readShort 21 (37, .aload_n 1, 1) rfl) rfl ?_
      refine x_iload_n (dtk dt_X11_readShort 22 (38, .iload_n 2, 1) rfl) rfl ?_
      refine kc_X11_340 rfl (dtk dt_X11_readShort 23 (39, .invokevirtual 340, 3) rfl) (c_X8_numberAt (G := G)  hs hsz) rfl rfl hs.1 (fitR (by decide) (by decide)) (Nat.le_of_ble_eq_true rfl) (pqK ?_)
      rw [hsL.1.2]
      refine kc_X11_111 rfl (dtk dt_X11_readShort 24 (42, .invokevirtual 111, 3) rfl) (c_X11_answer (G := G)  hw) rfl rfl (wk_0 hw) (fitR (by decide) (by decide)) (Nat.le_of_ble_eq_true rfl) (pqK ?_)
      refine x_goto (tgt := 53) (dtk dt_X11_readShort 25 (45, .goto 8, 3) rfl) (by decide) ?_
      exact r_i (dtk dt_X11_readShort 29 (53, .ireturn, 1) rfl) rfl (by first | (rw [if_neg hne]; done) | (rw [if_pos heq, if_pos hi2]; have z := (hsL.2.2.2 i hi2.1 (by have z := hsL.2.2.1; omega)).1; rw [show (28 : Int) + 2 * k + 1 = 29 + 2 * k by omega]; exact z)) (by first | (rw [hj]; done) | (rw [heq]))
  refine x_iload_n (dtk dt_X11_readShort 10 (17, .iload_n 3, 1) rfl) rfl ?_
  refine x_if_ne (tgt := 32) (dtk dt_X11_readShort 11 (18, .ifCond .ne 14, 3) rfl) (by decide) (fun c18 => ?_) (fun c18 => ?_)
  · skip
    refine MW.sub [1, 2, 3, 0] rfl ?_
    exact J32_2 _ (by first | exact rsW_w rfl c18 | exact (Decidable.not_not.mp c18).trans ((rsW_v rfl (Decidable.not_not.mp c18)).1 hi) | exact (rsW_v rfl (Decidable.not_not.mp c18)).2 hi)
  · skip
    refine x_aload_n (dtk dt_X11_readShort 12 (21, .aload_n 1, 1) rfl) rfl ?_
    refine x_iload_n (dtk dt_X11_readShort 13 (22, .iload_n 2, 1) rfl) rfl ?_
    refine kc_X11_307 rfl (dtk dt_X11_readShort 14 (23, .invokevirtual 307, 3) rfl) (c_X8_hasPlace (G := G)  hs) rfl rfl hs.1 (fitR (by decide) (by decide)) (Nat.le_of_ble_eq_true rfl) (pqK ?_)
    rw [hsL.1.2]
    refine x_if_neB (tgt := 32) (dtk dt_X11_readShort 15 (26, .ifCond .ne 6, 3) rfl) (by decide) (fun c26 => ?_) (fun c26 => ?_)
    · skip
      have hi : 0 ≤ i ∧ i < M 43 k := by simpa using c26
      refine MW.sub [1, 2, 3, 0] rfl ?_
      exact J32_2 _ (by first | exact rsW_w rfl c18 | exact (Decidable.not_not.mp c18).trans ((rsW_v rfl (Decidable.not_not.mp c18)).1 hi) | exact (rsW_v rfl (Decidable.not_not.mp c18)).2 hi)
    · skip
      have hi : ¬ (0 ≤ i ∧ i < M 43 k) := by (simp at c26; omega)
      refine x_bipush (v := 12) ⟨by decide, by decide⟩ (dtk dt_X11_readShort 16 (29, .bipush 12, 2) rfl) ?_
      refine x_istore_n (dtk dt_X11_readShort 17 (31, .istore_n 3, 1) rfl) (by decide) ?_
      refine MW.sub [1, 2, 3, 0] rfl ?_
      exact J32_2 _ (by first | exact rsW_w rfl c18 | exact (Decidable.not_not.mp c18).trans ((rsW_v rfl (Decidable.not_not.mp c18)).1 hi) | exact (rsW_v rfl (Decidable.not_not.mp c18)).2 hi)
set_option maxRecDepth 100000 in
set_option maxHeartbeats 1000000 in
theorem c_X11_copyBytes {G : GG} {n : Nat} {K : KK} {M : MM} {k i : Int} (hw : WF K M) (hs : SF K M (28 + 2 * k)) (hsL : (M (28 + 2 * k) 1 = M 42 k ∧ M (28 + 2 * k) 2 = M 43 k) ∧ (-1 ≤ M 42 k ∧ M 42 k ≤ 2) ∧ (0 ≤ M 43 k ∧ M 43 k ≤ 20) ∧ ∀ i, 0 ≤ i → i < 20 → M (29 + 2 * k) i = M 44 (20 * k + i) ∧ 0 ≤ M 44 (20 * k + i) ∧ M 44 (20 * k + i) ≤ 100) (hk : 0 ≤ k ∧ k < 4) (hq : -100 ≤ i ∧ i ≤ 100) (hb : ∀ j, inR (M (28 + 2 * k + 1) j)) : MC G mi_X11_copyBytes 4 0 0 [(1, 0), (1, 28 + 2 * k), (0, i)] n K M (PQ (some (0, if cbW M k i = 0 then sumZ i (fun j => M 44 (20 * k + (j + 1))) else -1)) n K (st2 M 0 11 (cbW M k i))) := by
  refine MC.intro (lc := [(0, (1, 0)), (1, (1, 28 + 2 * k)), (2, (0, i))]) (by decide) rfl (by simp [Nat.ble]) (Nat.le_of_ble_eq_true rfl) rfl (fun hMR => ?_)
  have hsz : 0 ≤ M (28 + 2 * k) 2 ∧ M (28 + 2 * k) 2 ≤ 20 := by (rw [hsL.1.2]; exact hsL.2.2.1)
  refine x_aload_n (dtk dt_X11_copyBytes 0 (0, .aload_n 1, 1) rfl) rfl ?_
  refine x_ifnonnull (tgt := 11) (dtk dt_X11_copyBytes 1 (1, .ifnonnull 10, 3) rfl) (by decide) (fun c1 => ?_) (fun c1 => ?_)
  rotate_left
  · exact absurd c1 (by omega)
  refine x_aload_n (dtk dt_X11_copyBytes 6 (11, .aload_n 1, 1) rfl) rfl ?_
  refine x_iconst (v := 0) ⟨by decide, by decide⟩ (dtk dt_X11_copyBytes 7 (12, .iconst 0, 1) rfl) ?_
  refine kc_X11_314 rfl (dtk dt_X11_copyBytes 8 (13, .invokevirtual 314, 3) rfl) (c_X8_whyNotOf (G := G)  hs) rfl rfl hs.1 (fitR (by decide) (by decide)) (Nat.le_of_ble_eq_true rfl) (pqK ?_)
  rw [hsL.1.1]
  refine x_istore_n (dtk dt_X11_copyBytes 9 (16, .istore_n 3, 1) rfl) (by decide) ?_
  have J46_2 : ∀ (j3 : Int), (j3 = cbW M k i) → MW G mi_X11_copyBytes (rmd 4 0 0) (MZ G (PQ (some (0, if cbW M k i = 0 then sumZ i (fun j => M 44 (20 * k + (j + 1))) else -1)) n K (st2 M 0 11 (cbW M k i))) 0 0) (0, 0) 46 [(0, (1, 0)), (1, (1, 28 + 2 * k)), (2, (0, i)), (3, (0, j3))] [] n K (M) := by
    intro j3 hj
    refine x_iload_n (dtk dt_X11_copyBytes 27 (46, .iload_n 3, 1) rfl) rfl ?_
    refine x_if_ne (tgt := 63) (dtk dt_X11_copyBytes 28 (47, .ifCond .ne 16, 3) rfl) (by decide) (fun c47 => ?_) (fun c47 => ?_)
    · skip
      have hne : ¬ cbW M k i = 0 := fun h => c47 (hj.trans h)
      refine x_aload_n (dtk dt_X11_copyBytes 36 (63, .aload_n 0, 1) rfl) rfl ?_
      refine x_iload_n (dtk dt_X11_copyBytes 37 (64, .iload_n 3, 1) rfl) rfl ?_
      refine kc_X11_71 rfl (dtk dt_X11_copyBytes 38 (65, .invokevirtual 71, 3) rfl) (c_X11_refuse (G := G)  hw) rfl rfl (wk_0 hw) (fitR (by decide) (by decide)) (Nat.le_of_ble_eq_true rfl) (pqK ?_)
      exact r_i (dtk dt_X11_copyBytes 39 (68, .ireturn, 1) rfl) rfl (by first | (rw [if_neg hne]; done) | (rw [if_pos heq]; exact cop_sum hsL.2.2.2 hi2 hsL.2.2.1)) (by first | (rw [hj]; done) | (rw [heq]))
    · skip
      have heq : cbW M k i = 0 := hj.symm.trans (Decidable.not_not.mp c47)
      have hi2 := cbW_0 heq
      refine x_aload_n (dtk dt_X11_copyBytes 29 (50, .aload_n 0, 1) rfl) rfl ?_
      refine x_aload_n (dtk dt_X11_copyBytes 30 (51, .aload_n 1, 1) rfl) rfl ?_
      refine x_iconst (v := 1) ⟨by decide, by decide⟩ (dtk dt_X11_copyBytes 31 (52, .iconst 1, 1) rfl) ?_
      refine x_iload_n (dtk dt_X11_copyBytes 32 (53, .iload_n 2, 1) rfl) rfl ?_
      refine kc_X11_346 rfl (dtk dt_X11_copyBytes 33 (54, .invokevirtual 346, 3) rfl) (c_X8_sumOf (G := G)  hs hsz (by rw [hsL.1.2]; omega) hb) rfl rfl hs.1 (fitR (by decide) (by decide)) (Nat.le_of_ble_eq_true rfl) (pqK ?_)
      refine kc_X11_111 rfl (dtk dt_X11_copyBytes 34 (57, .invokevirtual 111, 3) rfl) (c_X11_answer (G := G)  hw) rfl rfl (wk_0 hw) (fitR (by decide) (by decide)) (Nat.le_of_ble_eq_true rfl) (pqK ?_)
      refine x_goto (tgt := 68) (dtk dt_X11_copyBytes 35 (60, .goto 8, 3) rfl) (by decide) ?_
      exact r_i (dtk dt_X11_copyBytes 39 (68, .ireturn, 1) rfl) rfl (by first | (rw [if_neg hne]; done) | (rw [if_pos heq]; exact cop_sum hsL.2.2.2 hi2 hsL.2.2.1)) (by first | (rw [hj]; done) | (rw [heq]))
  refine x_iload_n (dtk dt_X11_copyBytes 10 (17, .iload_n 3, 1) rfl) rfl ?_
  refine x_if_ne (tgt := 46) (dtk dt_X11_copyBytes 11 (18, .ifCond .ne 28, 3) rfl) (by decide) (fun c18 => ?_) (fun c18 => ?_)
  · skip
    refine MW.sub [1, 2, 3, 0] rfl ?_
    exact J46_2 _ (by have hz9 := hsL.1.2; first | exact cbW_w rfl c18 | exact (Decidable.not_not.mp c18).trans ((cbW_v rfl (Decidable.not_not.mp c18)).1 (by omega)) | exact (cbW_v rfl (Decidable.not_not.mp c18)).2 (by omega))
  · skip
    refine x_iload_n (dtk dt_X11_copyBytes 12 (21, .iload_n 2, 1) rfl) rfl ?_
    refine x_if_lt (tgt := 43) (dtk dt_X11_copyBytes 13 (22, .ifCond .lt 21, 3) rfl) (by decide) (fun c22 => ?_) (fun c22 => ?_)
    · skip
      refine x_bipush (v := 12) ⟨by decide, by decide⟩ (dtk dt_X11_copyBytes 25 (43, .bipush 12, 2) rfl) ?_
      refine x_istore_n (dtk dt_X11_copyBytes 26 (45, .istore_n 3, 1) rfl) (by decide) ?_
      refine MW.sub [1, 2, 3, 0] rfl ?_
      exact J46_2 _ (by have hz9 := hsL.1.2; first | exact cbW_w rfl c18 | exact (Decidable.not_not.mp c18).trans ((cbW_v rfl (Decidable.not_not.mp c18)).1 (by omega)) | exact (cbW_v rfl (Decidable.not_not.mp c18)).2 (by omega))
    · skip
      refine x_iconst (v := 1) ⟨by decide, by decide⟩ (dtk dt_X11_copyBytes 14 (25, .iconst 1, 1) rfl) ?_
      refine x_iload_n (dtk dt_X11_copyBytes 15 (26, .iload_n 2, 1) rfl) rfl ?_
      refine y_iadd (dtk dt_X11_copyBytes 16 (27, .iadd, 1) rfl) ⟨by omega, by omega⟩ ?_
      refine x_aload_n (dtk dt_X11_copyBytes 17 (28, .aload_n 1, 1) rfl) rfl ?_
      refine fg_X11_317 rfl (dtk dt_X11_copyBytes 18 (29, .getfield 317, 3) rfl) hs.1 hsL.1.2 ?_
      refine x_icmp_gt (tgt := 43) (dtk dt_X11_copyBytes 19 (32, .if_icmp .gt 11, 3) rfl) (by decide) (fun c32 => ?_) (fun c32 => ?_)
      · skip
        refine x_bipush (v := 12) ⟨by decide, by decide⟩ (dtk dt_X11_copyBytes 25 (43, .bipush 12, 2) rfl) ?_
        refine x_istore_n (dtk dt_X11_copyBytes 26 (45, .istore_n 3, 1) rfl) (by decide) ?_
        refine MW.sub [1, 2, 3, 0] rfl ?_
        exact J46_2 _ (by have hz9 := hsL.1.2; first | exact cbW_w rfl c18 | exact (Decidable.not_not.mp c18).trans ((cbW_v rfl (Decidable.not_not.mp c18)).1 (by omega)) | exact (cbW_v rfl (Decidable.not_not.mp c18)).2 (by omega))
      · skip
        refine x_iload_n (dtk dt_X11_copyBytes 20 (35, .iload_n 2, 1) rfl) rfl ?_
        refine x_iload_n (dtk dt_X11_copyBytes 21 (36, .iload_n 2, 1) rfl) rfl ?_
        refine y_iadd (dtk dt_X11_copyBytes 22 (37, .iadd, 1) rfl) ⟨by omega, by omega⟩ ?_
        refine x_bipush (v := 6) ⟨by decide, by decide⟩ (dtk dt_X11_copyBytes 23 (38, .bipush 6, 2) rfl) ?_
        refine x_icmp_le (tgt := 46) (dtk dt_X11_copyBytes 24 (40, .if_icmp .le 6, 3) rfl) (by decide) (fun c40 => ?_) (fun c40 => ?_)
        · skip
          refine MW.sub [1, 2, 3, 0] rfl ?_
          exact J46_2 _ (by have hz9 := hsL.1.2; first | exact cbW_w rfl c18 | exact (Decidable.not_not.mp c18).trans ((cbW_v rfl (Decidable.not_not.mp c18)).1 (by omega)) | exact (cbW_v rfl (Decidable.not_not.mp c18)).2 (by omega))
        · skip
          refine x_bipush (v := 12) ⟨by decide, by decide⟩ (dtk dt_X11_copyBytes 25 (43, .bipush 12, 2) rfl) ?_
          refine x_istore_n (dtk dt_X11_copyBytes 26 (45, .istore_n 3, 1) rfl) (by decide) ?_
          refine MW.sub [1, 2, 3, 0] rfl ?_
          exact J46_2 _ (by have hz9 := hsL.1.2; first | exact cbW_w rfl c18 | exact (Decidable.not_not.mp c18).trans ((cbW_v rfl (Decidable.not_not.mp c18)).1 (by omega)) | exact (cbW_v rfl (Decidable.not_not.mp c18)).2 (by omega))
