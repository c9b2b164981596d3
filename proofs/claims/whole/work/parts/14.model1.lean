/-! ===== the model: small methods ===== -/
set_option maxRecDepth 100000 in
set_option maxHeartbeats 4000000 in
theorem c_X12_in {G : GG} {n : Nat} {K : KK} {M : MM} {v lo hi : Int}  : MC G mi_X12_in 1 0 0 [(0, v), (0, lo), (0, hi)] n K M (PQ (some (0, B (decide (lo ≤ v) && decide (v ≤ hi)))) n K (M)) := by
  refine MC.intro (lc := [(0, (0, v)), (1, (0, lo)), (2, (0, hi))]) (by decide) rfl (by simp [Nat.ble]) (Nat.le_of_ble_eq_true rfl) rfl (fun hMR => ?_)
  refine x_iload_n (dtk dt_X12_in 0 (0, .iload_n 0, 1) rfl) rfl ?_
  refine x_iload_n (dtk dt_X12_in 1 (1, .iload_n 1, 1) rfl) rfl ?_
  refine x_icmp_lt (tgt := 14) (dtk dt_X12_in 2 (2, .if_icmp .lt 12, 3) rfl) (by decide) (fun c2 => ?_) (fun c2 => ?_)
  · skip
    refine x_iconst (v := 0) ⟨by decide, by decide⟩ (dtk dt_X12_in 8 (14, .iconst 0, 1) rfl) ?_
    exact r_b (b := false) (dtk dt_X12_in 9 (15, .ireturn, 1) rfl) rfl (by simp; omega) rfl
  · skip
    refine x_iload_n (dtk dt_X12_in 3 (5, .iload_n 0, 1) rfl) rfl ?_
    refine x_iload_n (dtk dt_X12_in 4 (6, .iload_n 2, 1) rfl) rfl ?_
    refine x_icmp_gt (tgt := 14) (dtk dt_X12_in 5 (7, .if_icmp .gt 7, 3) rfl) (by decide) (fun c7 => ?_) (fun c7 => ?_)
    · skip
      refine x_iconst (v := 0) ⟨by decide, by decide⟩ (dtk dt_X12_in 8 (14, .iconst 0, 1) rfl) ?_
      exact r_b (b := false) (dtk dt_X12_in 9 (15, .ireturn, 1) rfl) rfl (by simp; omega) rfl
    · skip
      refine x_iconst (v := 1) ⟨by decide, by decide⟩ (dtk dt_X12_in 6 (10, .iconst 1, 1) rfl) ?_
      refine x_goto (tgt := 15) (dtk dt_X12_in 7 (11, .goto 4, 3) rfl) (by decide) ?_
      exact r_b (b := true) (dtk dt_X12_in 9 (15, .ireturn, 1) rfl) rfl (by simp; omega) rfl
set_option maxRecDepth 100000 in
set_option maxHeartbeats 4000000 in
theorem c_X12_refused {G : GG} {n : Nat} {K : KK} {M : MM} {h : Int} (hw : WF K M) : MC G mi_X12_refused 1 0 0 [(1, 36), (0, h)] n K M (PQ (some (0, -1)) n K (st2 M 36 12 h)) := by
  refine MC.intro (lc := [(0, (1, 36)), (1, (0, h))]) (by decide) rfl (by simp [Nat.ble]) (Nat.le_of_ble_eq_true rfl) rfl (fun hMR => ?_)
  refine x_aload_n (dtk dt_X12_refused 0 (0, .aload_n 0, 1) rfl) rfl ?_
  refine x_iload_n (dtk dt_X12_refused 1 (1, .iload_n 1, 1) rfl) rfl ?_
  refine fp_X12_68 rfl (dtk dt_X12_refused 2 (2, .putfield 68, 3) rfl) (wk_36 hw) ?_
  refine x_iconst (v := -1) ⟨by decide, by decide⟩ (dtk dt_X12_refused 3 (5, .iconst (-1), 1) rfl) ?_
  exact r_i (dtk dt_X12_refused 4 (6, .ireturn, 1) rfl) rfl rfl rfl
set_option maxRecDepth 100000 in
set_option maxHeartbeats 4000000 in
theorem c_X12_done {G : GG} {n : Nat} {K : KK} {M : MM} {v : Int} (hw : WF K M) : MC G mi_X12_done 1 0 0 [(1, 36), (0, v)] n K M (PQ (some (0, v)) n K (st2 M 36 12 0)) := by
  refine MC.intro (lc := [(0, (1, 36)), (1, (0, v))]) (by decide) rfl (by simp [Nat.ble]) (Nat.le_of_ble_eq_true rfl) rfl (fun hMR => ?_)
  refine x_aload_n (dtk dt_X12_done 0 (0, .aload_n 0, 1) rfl) rfl ?_
  refine x_iconst (v := 0) ⟨by decide, by decide⟩ (dtk dt_X12_done 1 (1, .iconst 0, 1) rfl) ?_
  refine fp_X12_68 rfl (dtk dt_X12_done 2 (2, .putfield 68, 3) rfl) (wk_36 hw) ?_
  refine x_iload_n (dtk dt_X12_done 3 (5, .iload_n 1, 1) rfl) rfl ?_
  exact r_i (dtk dt_X12_done 4 (6, .ireturn, 1) rfl) rfl rfl rfl
set_option maxRecDepth 100000 in
set_option maxHeartbeats 4000000 in
theorem c_X12_isOrder {G : GG} {n : Nat} {K : KK} {M : MM} {o : Int} (hm : MO K M) : MC G mi_X12_isOrder 2 0 0 [(1, 36), (0, o)] n K M (PQ (some (0, B (isOr M o))) n K (M)) := by
  refine MC.intro (lc := [(0, (1, 36)), (1, (0, o))]) (by decide) rfl (by simp [Nat.ble]) (Nat.le_of_ble_eq_true rfl) rfl (fun hMR => ?_)
  have h0 := hm.2.1
  refine x_iload_n (dtk dt_X12_isOrder 0 (0, .iload_n 1, 1) rfl) rfl ?_
  refine x_iconst (v := 0) ⟨by decide, by decide⟩ (dtk dt_X12_isOrder 1 (1, .iconst 0, 1) rfl) ?_
  refine x_aload_n (dtk dt_X12_isOrder 2 (2, .aload_n 0, 1) rfl) rfl ?_
  refine fg_X12_71 rfl (dtk dt_X12_isOrder 3 (3, .getfield 71, 3) rfl) (wk_36 hm.1) rfl ?_
  refine x_iconst (v := 1) ⟨by decide, by decide⟩ (dtk dt_X12_isOrder 4 (6, .iconst 1, 1) rfl) ?_
  refine y_isub (dtk dt_X12_isOrder 5 (7, .isub, 1) rfl) ⟨by omega, by omega⟩ ?_
  refine kc_X12_74 rfl (dtk dt_X12_isOrder 6 (8, .invokestatic 74, 3) rfl) (c_X12_in (G := G)  ) rfl rfl (fitR (by decide) (by decide)) (Nat.le_of_ble_eq_true rfl) (pqK ?_)
  exact r_b (dtk dt_X12_isOrder 7 (11, .ireturn, 1) rfl) rfl (by unfold isOr; congr 1; rw [decide_eq_decide]; omega) rfl
set_option maxRecDepth 100000 in
set_option maxHeartbeats 4000000 in
theorem c_X12_isThing {G : GG} {n : Nat} {K : KK} {M : MM} {o a : Int} (hm : MO K M) : MC G mi_X12_isThing 3 0 0 [(1, 36), (0, o), (0, a)] n K M (PQ (some (0, B (isTh M o a))) n K (M)) := by
  refine MC.intro (lc := [(0, (1, 36)), (1, (0, o)), (2, (0, a))]) (by decide) rfl (by simp [Nat.ble]) (Nat.le_of_ble_eq_true rfl) rfl (fun hMR => ?_)
  have h0 := hm.2.1
  refine x_aload_n (dtk dt_X12_isThing 0 (0, .aload_n 0, 1) rfl) rfl ?_
  refine x_iload_n (dtk dt_X12_isThing 1 (1, .iload_n 1, 1) rfl) rfl ?_
  refine kc_X12_78 rfl (dtk dt_X12_isThing 2 (2, .invokevirtual 78, 3) rfl) (c_X12_isOrder (G := G)  hm) rfl rfl (wk_36 hm.1) (fitR (by decide) (by decide)) (Nat.le_of_ble_eq_true rfl) (pqK ?_)
  refine x_if_eqB (tgt := 28) (dtk dt_X12_isThing 3 (5, .ifCond .eq 23, 3) rfl) (by decide) (fun c5 => ?_) (fun c5 => ?_)
  · skip
    refine x_iconst (v := 0) ⟨by decide, by decide⟩ (dtk dt_X12_isThing 16 (28, .iconst 0, 1) rfl) ?_
    exact r_b (b := false) (dtk dt_X12_isThing 17 (29, .ireturn, 1) rfl) rfl (by unfold isTh; simp_all; try omega) rfl
  · skip
    have ho := isOr_of hm c5
    have h1 := hm.sz ho
    refine x_iload_n (dtk dt_X12_isThing 4 (8, .iload_n 2, 1) rfl) rfl ?_
    refine x_iconst (v := 0) ⟨by decide, by decide⟩ (dtk dt_X12_isThing 5 (9, .iconst 0, 1) rfl) ?_
    refine x_aload_n (dtk dt_X12_isThing 6 (10, .aload_n 0, 1) rfl) rfl ?_
    refine fg_X12_13 rfl (dtk dt_X12_isThing 7 (11, .getfield 13, 3) rfl) (wk_36 hm.1) (wm_36_2 hm.1) ?_
    refine x_iload_n (dtk dt_X12_isThing 8 (14, .iload_n 1, 1) rfl) rfl ?_
    refine x_iald (dtk dt_X12_isThing 9 (15, .iaload, 1) rfl) (wk_38 hm.1) ⟨by omega, by omega⟩ ?_
    refine x_iconst (v := 1) ⟨by decide, by decide⟩ (dtk dt_X12_isThing 10 (16, .iconst 1, 1) rfl) ?_
    refine y_isub (dtk dt_X12_isThing 11 (17, .isub, 1) rfl) ⟨by omega, by omega⟩ ?_
    refine kc_X12_74 rfl (dtk dt_X12_isThing 12 (18, .invokestatic 74, 3) rfl) (c_X12_in (G := G)  ) rfl rfl (fitR (by decide) (by decide)) (Nat.le_of_ble_eq_true rfl) (pqK ?_)
    refine x_if_eqB (tgt := 28) (dtk dt_X12_isThing 13 (21, .ifCond .eq 7, 3) rfl) (by decide) (fun c21 => ?_) (fun c21 => ?_)
    · skip
      refine x_iconst (v := 0) ⟨by decide, by decide⟩ (dtk dt_X12_isThing 16 (28, .iconst 0, 1) rfl) ?_
      exact r_b (b := false) (dtk dt_X12_isThing 17 (29, .ireturn, 1) rfl) rfl (by unfold isTh; simp_all; try omega) rfl
    · skip
      refine x_iconst (v := 1) ⟨by decide, by decide⟩ (dtk dt_X12_isThing 14 (24, .iconst 1, 1) rfl) ?_
      refine x_goto (tgt := 29) (dtk dt_X12_isThing 15 (25, .goto 4, 3) rfl) (by decide) ?_
      exact r_b (b := true) (dtk dt_X12_isThing 17 (29, .ireturn, 1) rfl) rfl (by unfold isTh; simp_all; try omega) rfl
set_option maxRecDepth 100000 in
set_option maxHeartbeats 4000000 in
theorem c_X12_has {G : GG} {n : Nat} {K : KK} {M : MM} {s a : Int} (hs : nn s) (ha : 0 ≤ a ∧ a < 31) : MC G mi_X12_has 1 0 0 [(0, s), (0, a)] n K M (PQ (some (0, B (bt s a))) n K (M)) := by
  refine MC.intro (lc := [(0, (0, s)), (1, (0, a))]) (by decide) rfl (by simp [Nat.ble]) (Nat.le_of_ble_eq_true rfl) rfl (fun hMR => ?_)
  refine x_iload_n (dtk dt_X12_has 0 (0, .iload_n 0, 1) rfl) rfl ?_
  refine x_iload_n (dtk dt_X12_has 1 (1, .iload_n 1, 1) rfl) rfl ?_
  refine x_ishr (dtk dt_X12_has 2 (2, .ishr, 1) rfl) ?_
  refine x_iconst (v := 1) ⟨by decide, by decide⟩ (dtk dt_X12_has 3 (3, .iconst 1, 1) rfl) ?_
  refine x_iand (dtk dt_X12_has 4 (4, .iand, 1) rfl) ?_
  rw [zbit hs ha]
  refine x_iconst (v := 1) ⟨by decide, by decide⟩ (dtk dt_X12_has 5 (5, .iconst 1, 1) rfl) ?_
  refine x_icmp_ne (tgt := 13) (dtk dt_X12_has 6 (6, .if_icmp .ne 7, 3) rfl) (by decide) (fun c6 => ?_) (fun c6 => ?_)
  · skip
    refine x_iconst (v := 0) ⟨by decide, by decide⟩ (dtk dt_X12_has 9 (13, .iconst 0, 1) rfl) ?_
    exact r_b (b := false) (dtk dt_X12_has 10 (14, .ireturn, 1) rfl) rfl (by cases h : bt s a <;> simp_all [B]) rfl
  · skip
    refine x_iconst (v := 1) ⟨by decide, by decide⟩ (dtk dt_X12_has 7 (9, .iconst 1, 1) rfl) ?_
    refine x_goto (tgt := 14) (dtk dt_X12_has 8 (10, .goto 4, 3) rfl) (by decide) ?_
    exact r_b (b := true) (dtk dt_X12_has 10 (14, .ireturn, 1) rfl) rfl (by cases h : bt s a <;> simp_all [B]) rfl
set_option maxRecDepth 100000 in
set_option maxHeartbeats 4000000 in
theorem c_X12_bits {G : GG} {n : Nat} {K : KK} {M : MM} {s : Int} (hs : nn s) : MC G mi_X12_bits 1 0 0 [(0, s)] n K M (PQ (some (0, sumZ 10 (fun a => B (bt s a)))) n K (M)) := by
  refine MC.intro (lc := [(0, (0, s))]) (by decide) rfl (by simp [Nat.ble]) (Nat.le_of_ble_eq_true rfl) rfl (fun hMR => ?_)
  refine x_iconst (v := 0) ⟨by decide, by decide⟩ (dtk dt_X12_bits 0 (0, .iconst 0, 1) rfl) ?_
  refine x_istore_n (dtk dt_X12_bits 1 (1, .istore_n 1, 1) rfl) (by decide) ?_
  refine x_iconst (v := 0) ⟨by decide, by decide⟩ (dtk dt_X12_bits 2 (2, .iconst 0, 1) rfl) ?_
  refine x_istore_n (dtk dt_X12_bits 3 (3, .istore_n 2, 1) rfl) (by decide) ?_
  have L4 : ∀ (fu : Nat) (v1 : Int) (v2 : Int), (0 ≤ v2 ∧ v2 ≤ 10) → (v1 = sumZ v2 (fun a => B (bt s a))) → (10 - v2).toNat = fu → MW G mi_X12_bits (rmd 1 0 0) (MZ G (PQ (some (0, sumZ 10 (fun a => B (bt s a)))) n K (M)) 0 0) (0, 0) 4 [(0, (0, s)), (1, (0, v1)), (2, (0, v2))] [] n K (M) := by
    intro fu
    induction fu using Nat.strongRecOn with
    | ind fu ih4 =>
      intro v1 v2 h1 h2 hk4
      have hb := sumZ_b01 h1.1 (fun a => bt s a)
      have hb2 := B_01 (bt s v2)
      refine x_iload_n (dtk dt_X12_bits 4 (4, .iload_n 2, 1) rfl) rfl ?_
      refine x_bipush (v := 10) ⟨by decide, by decide⟩ (dtk dt_X12_bits 5 (5, .bipush 10, 2) rfl) ?_
      refine x_icmp_ge (tgt := 24) (dtk dt_X12_bits 6 (7, .if_icmp .ge 17, 3) rfl) (by decide) (fun c7 => ?_) (fun c7 => ?_)
      · skip
        refine x_iload_n (dtk dt_X12_bits 17 (24, .iload_n 1, 1) rfl) rfl ?_
        exact r_i (dtk dt_X12_bits 18 (25, .ireturn, 1) rfl) rfl (by rw [h2, show v2 = 10 by omega]) rfl
      · skip
        refine x_iload_n (dtk dt_X12_bits 7 (10, .iload_n 1, 1) rfl) rfl ?_
        refine x_iload_n (dtk dt_X12_bits 8 (11, .iload_n 0, 1) rfl) rfl ?_
        refine x_iload_n (dtk dt_X12_bits 9 (12, .iload_n 2, 1) rfl) rfl ?_
        refine x_ishr (dtk dt_X12_bits 10 (13, .ishr, 1) rfl) ?_
        refine x_iconst (v := 1) ⟨by decide, by decide⟩ (dtk dt_X12_bits 11 (14, .iconst 1, 1) rfl) ?_
        refine x_iand (dtk dt_X12_bits 12 (15, .iand, 1) rfl) ?_
        rw [zbit hs ⟨by omega, by omega⟩]
        refine y_iadd (dtk dt_X12_bits 13 (16, .iadd, 1) rfl) ⟨by omega, by omega⟩ ?_
        refine x_istore_n (dtk dt_X12_bits 14 (17, .istore_n 1, 1) rfl) (by decide) ?_
        refine y_iinc (dtk dt_X12_bits 15 (18, .iinc 2 1, 3) rfl) rfl (by decide) ⟨by omega, by omega⟩ ?_
        refine x_goto (tgt := 4) (dtk dt_X12_bits 16 (21, .goto (-17), 3) rfl) (by decide) ?_
        refine MW.sub [2, 1, 0] rfl ?_
        exact ih4 _ (by omega) _ _ (by omega) (by rw [sumZ_s (by omega), h2]) rfl
  refine MW.sub [2, 1, 0] rfl ?_
  exact L4 _ _ _ (by omega) rfl rfl
set_option maxRecDepth 100000 in
set_option maxHeartbeats 4000000 in
theorem c_X12_isBelow {G : GG} {n : Nat} {K : KK} {M : MM} {o a b m : Int} {d : Int → Int} (hA : AT K M o m d) (ha : 0 ≤ a ∧ a < 31) (hb : 0 ≤ b ∧ b < 10) : MC G mi_X12_isBelow 2 0 0 [(1, 36), (0, o), (0, a), (0, b)] n K M (PQ (some (0, B (rel d a b))) n K (M)) := by
  refine MC.intro (lc := [(0, (1, 36)), (1, (0, o)), (2, (0, a)), (3, (0, b))]) (by decide) rfl (by simp [Nat.ble]) (Nat.le_of_ble_eq_true rfl) rfl (fun hMR => ?_)
  have ho := hA.2.1
  refine x_aload_n (dtk dt_X12_isBelow 0 (0, .aload_n 0, 1) rfl) rfl ?_
  refine fg_X12_16 rfl (dtk dt_X12_isBelow 1 (1, .getfield 16, 3) rfl) (wk_36 hA.wf) (wm_36_3 hA.wf) ?_
  refine x_bipush (v := 10) ⟨by decide, by decide⟩ (dtk dt_X12_isBelow 2 (4, .bipush 10, 2) rfl) ?_
  refine x_iload_n (dtk dt_X12_isBelow 3 (6, .iload_n 1, 1) rfl) rfl ?_
  refine y_imul (dtk dt_X12_isBelow 4 (7, .imul, 1) rfl) ⟨by omega, by omega⟩ ?_
  refine x_iload_n (dtk dt_X12_isBelow 5 (8, .iload_n 3, 1) rfl) rfl ?_
  refine y_iadd (dtk dt_X12_isBelow 6 (9, .iadd, 1) rfl) ⟨by omega, by omega⟩ ?_
  refine x_iald (dtk dt_X12_isBelow 7 (10, .iaload, 1) rfl) (wk_39 hA.wf) ⟨by omega, by omega⟩ ?_
  rw [hA.at]
  refine x_iload_n (dtk dt_X12_isBelow 8 (11, .iload_n 2, 1) rfl) rfl ?_
  refine kc_X12_82 rfl (dtk dt_X12_isBelow 9 (12, .invokestatic 82, 3) rfl) (c_X12_has (G := G)  (hA.ok.nn hb) (by omega)) rfl rfl (fitR (by decide) (by decide)) (Nat.le_of_ble_eq_true rfl) (pqK ?_)
  exact r_b (dtk dt_X12_isBelow 10 (15, .ireturn, 1) rfl) rfl rfl rfl
set_option maxRecDepth 100000 in
set_option maxHeartbeats 4000000 in
theorem c_X12_isApart {G : GG} {n : Nat} {K : KK} {M : MM} {o a b m : Int} {d : Int → Int} (hA : AT K M o m d) (ha : 0 ≤ a ∧ a < 10) (hb : 0 ≤ b ∧ b < 10) : MC G mi_X12_isApart 3 0 0 [(1, 36), (0, o), (0, a), (0, b)] n K M (PQ (some (0, B (apr d a b))) n K (M)) := by
  refine MC.intro (lc := [(0, (1, 36)), (1, (0, o)), (2, (0, a)), (3, (0, b))]) (by decide) rfl (by simp [Nat.ble]) (Nat.le_of_ble_eq_true rfl) rfl (fun hMR => ?_)
  refine x_iload_n (dtk dt_X12_isApart 0 (0, .iload_n 2, 1) rfl) rfl ?_
  refine x_iload_n (dtk dt_X12_isApart 1 (1, .iload_n 3, 1) rfl) rfl ?_
  refine x_icmp_eq (tgt := 29) (dtk dt_X12_isApart 2 (2, .if_icmp .eq 27, 3) rfl) (by decide) (fun c2 => ?_) (fun c2 => ?_)
  · skip
    refine x_iconst (v := 0) ⟨by decide, by decide⟩ (dtk dt_X12_isApart 17 (29, .iconst 0, 1) rfl) ?_
    exact r_b (b := false) (dtk dt_X12_isApart 18 (30, .ireturn, 1) rfl) rfl (by unfold apr; simp_all) rfl
  · skip
    refine x_aload_n (dtk dt_X12_isApart 3 (5, .aload_n 0, 1) rfl) rfl ?_
    refine x_iload_n (dtk dt_X12_isApart 4 (6, .iload_n 1, 1) rfl) rfl ?_
    refine x_iload_n (dtk dt_X12_isApart 5 (7, .iload_n 2, 1) rfl) rfl ?_
    refine x_iload_n (dtk dt_X12_isApart 6 (8, .iload_n 3, 1) rfl) rfl ?_
    refine kc_X12_86 rfl (dtk dt_X12_isApart 7 (9, .invokevirtual 86, 3) rfl) (c_X12_isBelow (G := G)  hA (by omega) (by omega)) rfl rfl (wk_36 hA.wf) (fitR (by decide) (by decide)) (Nat.le_of_ble_eq_true rfl) (pqK ?_)
    refine x_if_neB (tgt := 29) (dtk dt_X12_isApart 8 (12, .ifCond .ne 17, 3) rfl) (by decide) (fun c12 => ?_) (fun c12 => ?_)
    · skip
      refine x_iconst (v := 0) ⟨by decide, by decide⟩ (dtk dt_X12_isApart 17 (29, .iconst 0, 1) rfl) ?_
      exact r_b (b := false) (dtk dt_X12_isApart 18 (30, .ireturn, 1) rfl) rfl (by unfold apr; simp_all) rfl
    · skip
      refine x_aload_n (dtk dt_X12_isApart 9 (15, .aload_n 0, 1) rfl) rfl ?_
      refine x_iload_n (dtk dt_X12_isApart 10 (16, .iload_n 1, 1) rfl) rfl ?_
      refine x_iload_n (dtk dt_X12_isApart 11 (17, .iload_n 3, 1) rfl) rfl ?_
      refine x_iload_n (dtk dt_X12_isApart 12 (18, .iload_n 2, 1) rfl) rfl ?_
      refine kc_X12_86 rfl (dtk dt_X12_isApart 13 (19, .invokevirtual 86, 3) rfl) (c_X12_isBelow (G := G)  hA (by omega) (by omega)) rfl rfl (wk_36 hA.wf) (fitR (by decide) (by decide)) (Nat.le_of_ble_eq_true rfl) (pqK ?_)
      refine x_if_neB (tgt := 29) (dtk dt_X12_isApart 14 (22, .ifCond .ne 7, 3) rfl) (by decide) (fun c22 => ?_) (fun c22 => ?_)
      · skip
        refine x_iconst (v := 0) ⟨by decide, by decide⟩ (dtk dt_X12_isApart 17 (29, .iconst 0, 1) rfl) ?_
        exact r_b (b := false) (dtk dt_X12_isApart 18 (30, .ireturn, 1) rfl) rfl (by unfold apr; simp_all) rfl
      · skip
        refine x_iconst (v := 1) ⟨by decide, by decide⟩ (dtk dt_X12_isApart 15 (25, .iconst 1, 1) rfl) ?_
        refine x_goto (tgt := 30) (dtk dt_X12_isApart 16 (26, .goto 4, 3) rfl) (by decide) ?_
        exact r_b (b := true) (dtk dt_X12_isApart 18 (30, .ireturn, 1) rfl) rfl (by unfold apr; simp_all) rfl
set_option maxRecDepth 100000 in
set_option maxHeartbeats 4000000 in
theorem c_X12_isNext {G : GG} {n : Nat} {K : KK} {M : MM} {o a b m : Int} {d : Int → Int} (hA : AT K M o m d) (ha : 0 ≤ a ∧ a < 10) (hb : 0 ≤ b ∧ b < 10) : MC G mi_X12_isNext 3 0 0 [(1, 36), (0, o), (0, a), (0, b)] n K M (PQ (some (0, B (nxt m d a b))) n K (M)) := by
  refine MC.intro (lc := [(0, (1, 36)), (1, (0, o)), (2, (0, a)), (3, (0, b))]) (by decide) rfl (by simp [Nat.ble]) (Nat.le_of_ble_eq_true rfl) rfl (fun hMR => ?_)
  have ho := hA.2.1
  have hsz := hA.ok.1
  refine x_aload_n (dtk dt_X12_isNext 0 (0, .aload_n 0, 1) rfl) rfl ?_
  refine x_iload_n (dtk dt_X12_isNext 1 (1, .iload_n 1, 1) rfl) rfl ?_
  refine x_iload_n (dtk dt_X12_isNext 2 (2, .iload_n 2, 1) rfl) rfl ?_
  refine x_iload_n (dtk dt_X12_isNext 3 (3, .iload_n 3, 1) rfl) rfl ?_
  refine kc_X12_86 rfl (dtk dt_X12_isNext 4 (4, .invokevirtual 86, 3) rfl) (c_X12_isBelow (G := G)  hA (by omega) (by omega)) rfl rfl (wk_36 hA.wf) (fitR (by decide) (by decide)) (Nat.le_of_ble_eq_true rfl) (pqK ?_)
  refine x_istore (dtk dt_X12_isNext 5 (7, .istore 4, 2) rfl) (by decide) ?_
  refine x_iconst (v := 0) ⟨by decide, by decide⟩ (dtk dt_X12_isNext 6 (9, .iconst 0, 1) rfl) ?_
  refine x_istore (dtk dt_X12_isNext 7 (10, .istore 5, 2) rfl) (by decide) ?_
  have L12 : ∀ (fu : Nat) (v4 : Bool) (v5 : Int), (0 ≤ v5 ∧ v5 ≤ m) → (v4 = (rel d a b && allB v5 (fun c => !(rel d a c && rel d c b)))) → (m - v5).toNat = fu → MW G mi_X12_isNext (rmd 3 0 0) (MZ G (PQ (some (0, B (nxt m d a b))) n K (M)) 0 0) (0, 0) 12 [(0, (1, 36)), (1, (0, o)), (2, (0, a)), (3, (0, b)), (4, (0, B v4)), (5, (0, v5))] [] n K (M) := by
    intro fu
    induction fu using Nat.strongRecOn with
    | ind fu ih12 =>
      intro v4 v5 h1 h2 hk12
      refine x_iload (dtk dt_X12_isNext 8 (12, .iload 5, 2) rfl) rfl ?_
      refine x_aload_n (dtk dt_X12_isNext 9 (14, .aload_n 0, 1) rfl) rfl ?_
      refine fg_X12_13 rfl (dtk dt_X12_isNext 10 (15, .getfield 13, 3) rfl) (wk_36 hA.wf) (wm_36_2 hA.wf) ?_
      refine x_iload_n (dtk dt_X12_isNext 11 (18, .iload_n 1, 1) rfl) rfl ?_
      refine x_iald (dtk dt_X12_isNext 12 (19, .iaload, 1) rfl) (wk_38 hA.wf) ⟨by omega, by omega⟩ ?_
      rw [hA.sz]
      refine x_icmp_ge (tgt := 63) (dtk dt_X12_isNext 13 (20, .if_icmp .ge 43, 3) rfl) (by decide) (fun c20 => ?_) (fun c20 => ?_)
      · skip
        refine x_iload (dtk dt_X12_isNext 34 (63, .iload 4, 2) rfl) rfl ?_
        exact r_b (dtk dt_X12_isNext 35 (65, .ireturn, 1) rfl) rfl (by rw [h2, show v5 = m by omega]; rfl) rfl
      · skip
        refine x_iload (dtk dt_X12_isNext 14 (23, .iload 4, 2) rfl) rfl ?_
        refine x_if_eqB (tgt := 54) (dtk dt_X12_isNext 15 (25, .ifCond .eq 29, 3) rfl) (by decide) (fun c25 => ?_) (fun c25 => ?_)
        · skip
          refine x_iconst (v := 0) ⟨by decide, by decide⟩ (dtk dt_X12_isNext 30 (54, .iconst 0, 1) rfl) ?_
          refine x_istore (dtk dt_X12_isNext 31 (55, .istore 4, 2) rfl) (by decide) ?_
          refine y_iinc (dtk dt_X12_isNext 32 (57, .iinc 5 1, 3) rfl) rfl (by decide) ⟨by omega, by omega⟩ ?_
          refine x_goto (tgt := 12) (dtk dt_X12_isNext 33 (60, .goto (-48), 3) rfl) (by decide) ?_
          refine MW.sub [2, 3, 4, 5, 1, 0] rfl ?_
          exact ih12 _ (by omega) false _ (by omega) (by clear ih12; rw [allB_s (by omega)]; simp_all) rfl
        · skip
          refine x_aload_n (dtk dt_X12_isNext 16 (28, .aload_n 0, 1) rfl) rfl ?_
          refine x_iload_n (dtk dt_X12_isNext 17 (29, .iload_n 1, 1) rfl) rfl ?_
          refine x_iload_n (dtk dt_X12_isNext 18 (30, .iload_n 2, 1) rfl) rfl ?_
          refine x_iload (dtk dt_X12_isNext 19 (31, .iload 5, 2) rfl) rfl ?_
          refine kc_X12_86 rfl (dtk dt_X12_isNext 20 (33, .invokevirtual 86, 3) rfl) (c_X12_isBelow (G := G)  hA (by omega) (by omega)) rfl rfl (wk_36 hA.wf) (fitR (by decide) (by decide)) (Nat.le_of_ble_eq_true rfl) (pqK ?_)
          refine x_if_eqB (tgt := 50) (dtk dt_X12_isNext 21 (36, .ifCond .eq 14, 3) rfl) (by decide) (fun c36 => ?_) (fun c36 => ?_)
          · skip
            refine x_iconst (v := 1) ⟨by decide, by decide⟩ (dtk dt_X12_isNext 28 (50, .iconst 1, 1) rfl) ?_
            refine x_goto (tgt := 55) (dtk dt_X12_isNext 29 (51, .goto 4, 3) rfl) (by decide) ?_
            refine x_istore (dtk dt_X12_isNext 31 (55, .istore 4, 2) rfl) (by decide) ?_
            refine y_iinc (dtk dt_X12_isNext 32 (57, .iinc 5 1, 3) rfl) rfl (by decide) ⟨by omega, by omega⟩ ?_
            refine x_goto (tgt := 12) (dtk dt_X12_isNext 33 (60, .goto (-48), 3) rfl) (by decide) ?_
            refine MW.sub [2, 3, 4, 5, 1, 0] rfl ?_
            exact ih12 _ (by omega) true _ (by omega) (by clear ih12; rw [allB_s (by omega)]; simp_all) rfl
          · skip
            refine x_aload_n (dtk dt_X12_isNext 22 (39, .aload_n 0, 1) rfl) rfl ?_
            refine x_iload_n (dtk dt_X12_isNext 23 (40, .iload_n 1, 1) rfl) rfl ?_
            refine x_iload (dtk dt_X12_isNext 24 (41, .iload 5, 2) rfl) rfl ?_
            refine x_iload_n (dtk dt_X12_isNext 25 (43, .iload_n 3, 1) rfl) rfl ?_
            refine kc_X12_86 rfl (dtk dt_X12_isNext 26 (44, .invokevirtual 86, 3) rfl) (c_X12_isBelow (G := G)  hA (by omega) (by omega)) rfl rfl (wk_36 hA.wf) (fitR (by decide) (by decide)) (Nat.le_of_ble_eq_true rfl) (pqK ?_)
            refine x_if_neB (tgt := 54) (dtk dt_X12_isNext 27 (47, .ifCond .ne 7, 3) rfl) (by decide) (fun c47 => ?_) (fun c47 => ?_)
            · skip
              refine x_iconst (v := 0) ⟨by decide, by decide⟩ (dtk dt_X12_isNext 30 (54, .iconst 0, 1) rfl) ?_
              refine x_istore (dtk dt_X12_isNext 31 (55, .istore 4, 2) rfl) (by decide) ?_
              refine y_iinc (dtk dt_X12_isNext 32 (57, .iinc 5 1, 3) rfl) rfl (by decide) ⟨by omega, by omega⟩ ?_
              refine x_goto (tgt := 12) (dtk dt_X12_isNext 33 (60, .goto (-48), 3) rfl) (by decide) ?_
              refine MW.sub [2, 3, 4, 5, 1, 0] rfl ?_
              exact ih12 _ (by omega) false _ (by omega) (by clear ih12; rw [allB_s (by omega)]; simp_all) rfl
            · skip
              refine x_iconst (v := 1) ⟨by decide, by decide⟩ (dtk dt_X12_isNext 28 (50, .iconst 1, 1) rfl) ?_
              refine x_goto (tgt := 55) (dtk dt_X12_isNext 29 (51, .goto 4, 3) rfl) (by decide) ?_
              refine x_istore (dtk dt_X12_isNext 31 (55, .istore 4, 2) rfl) (by decide) ?_
              refine y_iinc (dtk dt_X12_isNext 32 (57, .iinc 5 1, 3) rfl) rfl (by decide) ⟨by omega, by omega⟩ ?_
              refine x_goto (tgt := 12) (dtk dt_X12_isNext 33 (60, .goto (-48), 3) rfl) (by decide) ?_
              refine MW.sub [2, 3, 4, 5, 1, 0] rfl ?_
              exact ih12 _ (by omega) true _ (by omega) (by clear ih12; rw [allB_s (by omega)]; simp_all) rfl
  refine MW.sub [2, 3, 4, 5, 1, 0] rfl ?_
  exact L12 _ _ _ (by omega) (by simp [allB_0]) rfl
set_option maxRecDepth 100000 in
set_option maxHeartbeats 4000000 in
theorem c_X12_isLow {G : GG} {n : Nat} {K : KK} {M : MM} {o s m : Int} {d : Int → Int} (hA : AT K M o m d) (hs : nn s) : MC G mi_X12_isLow 2 0 0 [(1, 36), (0, o), (0, s)] n K M (PQ (some (0, B (low m d s))) n K (M)) := by
  refine MC.intro (lc := [(0, (1, 36)), (1, (0, o)), (2, (0, s))]) (by decide) rfl (by simp [Nat.ble]) (Nat.le_of_ble_eq_true rfl) rfl (fun hMR => ?_)
  have ho := hA.2.1
  have hsz := hA.ok.1
  refine x_iconst (v := 1) ⟨by decide, by decide⟩ (dtk dt_X12_isLow 0 (0, .iconst 1, 1) rfl) ?_
  refine x_istore_n (dtk dt_X12_isLow 1 (1, .istore_n 3, 1) rfl) (by decide) ?_
  refine x_iconst (v := 0) ⟨by decide, by decide⟩ (dtk dt_X12_isLow 2 (2, .iconst 0, 1) rfl) ?_
  refine x_istore (dtk dt_X12_isLow 3 (3, .istore 4, 2) rfl) (by decide) ?_
  have L5 : ∀ (fu : Nat) (v3 : Bool) (v4 : Int), (0 ≤ v4 ∧ v4 ≤ m) → (v3 = allB v4 (fun a => !bt s a || sub (d a) s)) → (m - v4).toNat = fu → MW G mi_X12_isLow (rmd 2 0 0) (MZ G (PQ (some (0, B (low m d s))) n K (M)) 0 0) (0, 0) 5 [(0, (1, 36)), (1, (0, o)), (2, (0, s)), (3, (0, B v3)), (4, (0, v4))] [] n K (M) := by
    intro fu
    induction fu using Nat.strongRecOn with
    | ind fu ih5 =>
      intro v3 v4 h1 h2 hk5
      refine x_iload (dtk dt_X12_isLow 4 (5, .iload 4, 2) rfl) rfl ?_
      refine x_aload_n (dtk dt_X12_isLow 5 (7, .aload_n 0, 1) rfl) rfl ?_
      refine fg_X12_13 rfl (dtk dt_X12_isLow 6 (8, .getfield 13, 3) rfl) (wk_36 hA.wf) (wm_36_2 hA.wf) ?_
      refine x_iload_n (dtk dt_X12_isLow 7 (11, .iload_n 1, 1) rfl) rfl ?_
      refine x_iald (dtk dt_X12_isLow 8 (12, .iaload, 1) rfl) (wk_38 hA.wf) ⟨by omega, by omega⟩ ?_
      rw [hA.sz]
      refine x_icmp_ge (tgt := 60) (dtk dt_X12_isLow 9 (13, .if_icmp .ge 47, 3) rfl) (by decide) (fun c13 => ?_) (fun c13 => ?_)
      · skip
        refine x_iload_n (dtk dt_X12_isLow 35 (60, .iload_n 3, 1) rfl) rfl ?_
        exact r_b (dtk dt_X12_isLow 36 (61, .ireturn, 1) rfl) rfl (by rw [h2, show v4 = m by omega]; rfl) rfl
      · skip
        refine x_iload_n (dtk dt_X12_isLow 10 (16, .iload_n 3, 1) rfl) rfl ?_
        refine x_if_eqB (tgt := 52) (dtk dt_X12_isLow 11 (17, .ifCond .eq 35, 3) rfl) (by decide) (fun c17 => ?_) (fun c17 => ?_)
        · skip
          refine x_iconst (v := 0) ⟨by decide, by decide⟩ (dtk dt_X12_isLow 31 (52, .iconst 0, 1) rfl) ?_
          refine x_istore_n (dtk dt_X12_isLow 32 (53, .istore_n 3, 1) rfl) (by decide) ?_
          refine y_iinc (dtk dt_X12_isLow 33 (54, .iinc 4 1, 3) rfl) rfl (by decide) ⟨by omega, by omega⟩ ?_
          refine x_goto (tgt := 5) (dtk dt_X12_isLow 34 (57, .goto (-52), 3) rfl) (by decide) ?_
          refine MW.sub [2, 3, 4, 1, 0] rfl ?_
          exact ih5 _ (by omega) false _ (by omega) (by clear ih5; rw [allB_s (by omega)]; simp_all [sub]) rfl
        · skip
          refine x_iload_n (dtk dt_X12_isLow 12 (20, .iload_n 2, 1) rfl) rfl ?_
          refine x_iload (dtk dt_X12_isLow 13 (21, .iload 4, 2) rfl) rfl ?_
          refine kc_X12_82 rfl (dtk dt_X12_isLow 14 (23, .invokestatic 82, 3) rfl) (c_X12_has (G := G)  (by omega) (by omega)) rfl rfl (fitR (by decide) (by decide)) (Nat.le_of_ble_eq_true rfl) (pqK ?_)
          refine x_if_eqB (tgt := 48) (dtk dt_X12_isLow 15 (26, .ifCond .eq 22, 3) rfl) (by decide) (fun c26 => ?_) (fun c26 => ?_)
          · skip
            refine x_iconst (v := 1) ⟨by decide, by decide⟩ (dtk dt_X12_isLow 29 (48, .iconst 1, 1) rfl) ?_
            refine x_goto (tgt := 53) (dtk dt_X12_isLow 30 (49, .goto 4, 3) rfl) (by decide) ?_
            refine x_istore_n (dtk dt_X12_isLow 32 (53, .istore_n 3, 1) rfl) (by decide) ?_
            refine y_iinc (dtk dt_X12_isLow 33 (54, .iinc 4 1, 3) rfl) rfl (by decide) ⟨by omega, by omega⟩ ?_
            refine x_goto (tgt := 5) (dtk dt_X12_isLow 34 (57, .goto (-52), 3) rfl) (by decide) ?_
            refine MW.sub [2, 3, 4, 1, 0] rfl ?_
            exact ih5 _ (by omega) true _ (by omega) (by clear ih5; rw [allB_s (by omega)]; simp_all [sub]) rfl
          · skip
            refine x_aload_n (dtk dt_X12_isLow 16 (29, .aload_n 0, 1) rfl) rfl ?_
            refine fg_X12_16 rfl (dtk dt_X12_isLow 17 (30, .getfield 16, 3) rfl) (wk_36 hA.wf) (wm_36_3 hA.wf) ?_
            refine x_bipush (v := 10) ⟨by decide, by decide⟩ (dtk dt_X12_isLow 18 (33, .bipush 10, 2) rfl) ?_
            refine x_iload_n (dtk dt_X12_isLow 19 (35, .iload_n 1, 1) rfl) rfl ?_
            refine y_imul (dtk dt_X12_isLow 20 (36, .imul, 1) rfl) ⟨by omega, by omega⟩ ?_
            refine x_iload (dtk dt_X12_isLow 21 (37, .iload 4, 2) rfl) rfl ?_
            refine y_iadd (dtk dt_X12_isLow 22 (39, .iadd, 1) rfl) ⟨by omega, by omega⟩ ?_
            refine x_iald (dtk dt_X12_isLow 23 (40, .iaload, 1) rfl) (wk_39 hA.wf) ⟨by omega, by omega⟩ ?_
            rw [hA.at]
            refine x_iload_n (dtk dt_X12_isLow 24 (41, .iload_n 2, 1) rfl) rfl ?_
            refine x_iconst (v := -1) ⟨by decide, by decide⟩ (dtk dt_X12_isLow 25 (42, .iconst (-1), 1) rfl) ?_
            refine x_ixor (dtk dt_X12_isLow 26 (43, .ixor, 1) rfl) ?_
            refine x_iand (dtk dt_X12_isLow 27 (44, .iand, 1) rfl) ?_
            refine x_if_ne (tgt := 52) (dtk dt_X12_isLow 28 (45, .ifCond .ne 7, 3) rfl) (by decide) (fun c45 => ?_) (fun c45 => ?_)
            · skip
              refine x_iconst (v := 0) ⟨by decide, by decide⟩ (dtk dt_X12_isLow 31 (52, .iconst 0, 1) rfl) ?_
              refine x_istore_n (dtk dt_X12_isLow 32 (53, .istore_n 3, 1) rfl) (by decide) ?_
              refine y_iinc (dtk dt_X12_isLow 33 (54, .iinc 4 1, 3) rfl) rfl (by decide) ⟨by omega, by omega⟩ ?_
              refine x_goto (tgt := 5) (dtk dt_X12_isLow 34 (57, .goto (-52), 3) rfl) (by decide) ?_
              refine MW.sub [2, 3, 4, 1, 0] rfl ?_
              exact ih5 _ (by omega) false _ (by omega) (by clear ih5; rw [allB_s (by omega)]; simp_all [sub]) rfl
            · skip
              refine x_iconst (v := 1) ⟨by decide, by decide⟩ (dtk dt_X12_isLow 29 (48, .iconst 1, 1) rfl) ?_
              refine x_goto (tgt := 53) (dtk dt_X12_isLow 30 (49, .goto 4, 3) rfl) (by decide) ?_
              refine x_istore_n (dtk dt_X12_isLow 32 (53, .istore_n 3, 1) rfl) (by decide) ?_
              refine y_iinc (dtk dt_X12_isLow 33 (54, .iinc 4 1, 3) rfl) rfl (by decide) ⟨by omega, by omega⟩ ?_
              refine x_goto (tgt := 5) (dtk dt_X12_isLow 34 (57, .goto (-52), 3) rfl) (by decide) ?_
              refine MW.sub [2, 3, 4, 1, 0] rfl ?_
              exact ih5 _ (by omega) true _ (by omega) (by clear ih5; rw [allB_s (by omega)]; simp_all [sub]) rfl
  refine MW.sub [2, 3, 4, 1, 0] rfl ?_
  exact L5 _ true _ (by omega) (by simp [allB_0]) rfl
