/-! ===== the model: making orders ===== -/
set_option maxRecDepth 100000 in
set_option maxHeartbeats 4000000 in
theorem c_X12_newOrder {G : GG} {n : Nat} {K : KK} {M : MM} {k q : Int} (hm : MO K M) (hlt : M 36 0 < 8) (hq : 0 ≤ q ∧ q ≤ 10) : MC G mi_X12_newOrder 2 0 0 [(1, 36), (0, k), (0, q)] n K M (PQ (some (0, M 36 0)) n K (crM M k q (fun _ => 0))) := by
  refine MC.intro (lc := [(0, (1, 36)), (1, (0, k)), (2, (0, q))]) (by decide) rfl (by simp [Nat.ble]) (Nat.le_of_ble_eq_true rfl) rfl (fun hMR => ?_)
  have h0 := hm.2.1
  refine x_aload_n (dtk dt_X12_newOrder 0 (0, .aload_n 0, 1) rfl) rfl ?_
  refine fg_X12_71 rfl (dtk dt_X12_newOrder 1 (1, .getfield 71, 3) rfl) (wk_36 hm.1) rfl ?_
  refine x_bipush (v := 8) ⟨by decide, by decide⟩ (dtk dt_X12_newOrder 2 (4, .bipush 8, 2) rfl) ?_
  refine x_icmp_eq (tgt := 15) (dtk dt_X12_newOrder 3 (6, .if_icmp .eq 9, 3) rfl) (by decide) (fun c6 => ?_) (fun c6 => ?_)
  · skip
    exact absurd c6 (by omega)
  · skip
    refine x_iload_n (dtk dt_X12_newOrder 4 (9, .iload_n 2, 1) rfl) rfl ?_
    refine x_bipush (v := 10) ⟨by decide, by decide⟩ (dtk dt_X12_newOrder 5 (10, .bipush 10, 2) rfl) ?_
    refine x_icmp_le (tgt := 21) (dtk dt_X12_newOrder 6 (12, .if_icmp .le 9, 3) rfl) (by decide) (fun c12 => ?_) (fun c12 => ?_)
    · skip
      refine x_aload_n (dtk dt_X12_newOrder 11 (21, .aload_n 0, 1) rfl) rfl ?_
      refine fg_X12_7 rfl (dtk dt_X12_newOrder 12 (22, .getfield 7, 3) rfl) (wk_36 hm.1) (wm_36_1 hm.1) ?_
      refine x_aload_n (dtk dt_X12_newOrder 13 (25, .aload_n 0, 1) rfl) rfl ?_
      refine fg_X12_71 rfl (dtk dt_X12_newOrder 14 (26, .getfield 71, 3) rfl) (wk_36 hm.1) rfl ?_
      refine x_iload_n (dtk dt_X12_newOrder 15 (29, .iload_n 1, 1) rfl) rfl ?_
      refine x_iast (dtk dt_X12_newOrder 16 (30, .iastore, 1) rfl) (wk_37 hm.1) ⟨by omega, by omega⟩ ?_
      refine x_aload_n (dtk dt_X12_newOrder 17 (31, .aload_n 0, 1) rfl) rfl ?_
      refine fg_X12_13 rfl (dtk dt_X12_newOrder 18 (32, .getfield 13, 3) rfl) (wk_36 hm.1) (wm_36_2 (WF.arr 37 rfl hm.1)) ?_
      refine x_aload_n (dtk dt_X12_newOrder 19 (35, .aload_n 0, 1) rfl) rfl ?_
      refine fg_X12_71 rfl (dtk dt_X12_newOrder 20 (36, .getfield 71, 3) rfl) (wk_36 hm.1) (v := M 36 0) (by simp [st2]) ?_
      refine x_iload_n (dtk dt_X12_newOrder 21 (39, .iload_n 2, 1) rfl) rfl ?_
      refine x_iast (dtk dt_X12_newOrder 22 (40, .iastore, 1) rfl) (wk_38 hm.1) ⟨by omega, by omega⟩ ?_
      refine x_iconst (v := 0) ⟨by decide, by decide⟩ (dtk dt_X12_newOrder 23 (41, .iconst 0, 1) rfl) ?_
      refine x_istore_n (dtk dt_X12_newOrder 24 (42, .istore_n 3, 1) rfl) (by decide) ?_
      have L43 : ∀ (fu : Nat) (v3 : Int), (0 ≤ v3 ∧ v3 ≤ 10) → (10 - v3).toNat = fu → MW G mi_X12_newOrder (rmd 2 0 0) (MZ G (PQ (some (0, M 36 0)) n K (crM M k q (fun _ => 0))) 0 0) (0, 0) 43 [(0, (1, 36)), (1, (0, k)), (2, (0, q)), (3, (0, v3))] [] n K (nO M k q v3) := by
        intro fu
        induction fu using Nat.strongRecOn with
        | ind fu ih43 =>
          intro v3 h1 hk43
          refine x_iload_n (dtk dt_X12_newOrder 25 (43, .iload_n 3, 1) rfl) rfl ?_
          refine x_bipush (v := 10) ⟨by decide, by decide⟩ (dtk dt_X12_newOrder 26 (44, .bipush 10, 2) rfl) ?_
          refine x_icmp_ge (tgt := 70) (dtk dt_X12_newOrder 27 (46, .if_icmp .ge 24, 3) rfl) (by decide) (fun c46 => ?_) (fun c46 => ?_)
          · skip
            refine x_aload_n (dtk dt_X12_newOrder 40 (70, .aload_n 0, 1) rfl) rfl ?_
            refine x_dup rfl (dtk dt_X12_newOrder 41 (71, .dup, 1) rfl) ?_
            refine fg_X12_71 rfl (dtk dt_X12_newOrder 42 (72, .getfield 71, 3) rfl) (wk_36 hm.1) (v := M 36 0) (nO_36 M k q v3) ?_
            refine x_iconst (v := 1) ⟨by decide, by decide⟩ (dtk dt_X12_newOrder 43 (75, .iconst 1, 1) rfl) ?_
            refine y_iadd (dtk dt_X12_newOrder 44 (76, .iadd, 1) rfl) ⟨by omega, by omega⟩ ?_
            refine fp_X12_71 rfl (dtk dt_X12_newOrder 45 (77, .putfield 71, 3) rfl) (wk_36 hm.1) ?_
            refine x_aload_n (dtk dt_X12_newOrder 46 (80, .aload_n 0, 1) rfl) rfl ?_
            refine x_iconst (v := 0) ⟨by decide, by decide⟩ (dtk dt_X12_newOrder 47 (81, .iconst 0, 1) rfl) ?_
            refine fp_X12_93 rfl (dtk dt_X12_newOrder 48 (82, .putfield 93, 3) rfl) (wk_36 hm.1) (Or.inl rfl) ?_
            refine x_aload_n (dtk dt_X12_newOrder 49 (85, .aload_n 0, 1) rfl) rfl ?_
            refine x_aload_n (dtk dt_X12_newOrder 50 (86, .aload_n 0, 1) rfl) rfl ?_
            refine fg_X12_71 rfl (dtk dt_X12_newOrder 51 (87, .getfield 71, 3) rfl) (wk_36 hm.1) (v := M 36 0 + 1) (by simp [st2]) ?_
            refine x_iconst (v := 1) ⟨by decide, by decide⟩ (dtk dt_X12_newOrder 52 (90, .iconst 1, 1) rfl) ?_
            refine y_isub (dtk dt_X12_newOrder 53 (91, .isub, 1) rfl) ⟨by omega, by omega⟩ ?_
            refine kc_X12_97 rfl (dtk dt_X12_newOrder 54 (92, .invokevirtual 97, 3) rfl) (c_X12_done (G := G)  (WF.fld 36 21 rfl (WF.fld 36 0 rfl (WF.nO hm.1)))) rfl rfl (wk_36 hm.1) (fitR (by decide) (by decide)) (Nat.le_of_ble_eq_true rfl) (pqK ?_)
            exact r_i (dtk dt_X12_newOrder 55 (95, .ireturn, 1) rfl) rfl (by omega) (by rw [show v3 = 10 by omega]; rfl)
          · skip
            refine x_aload_n (dtk dt_X12_newOrder 28 (49, .aload_n 0, 1) rfl) rfl ?_
            refine fg_X12_16 rfl (dtk dt_X12_newOrder 29 (50, .getfield 16, 3) rfl) (wk_36 hm.1) (wm_36_3 (WF.nO hm.1)) ?_
            refine x_bipush (v := 10) ⟨by decide, by decide⟩ (dtk dt_X12_newOrder 30 (53, .bipush 10, 2) rfl) ?_
            refine x_aload_n (dtk dt_X12_newOrder 31 (55, .aload_n 0, 1) rfl) rfl ?_
            refine fg_X12_71 rfl (dtk dt_X12_newOrder 32 (56, .getfield 71, 3) rfl) (wk_36 hm.1) (v := M 36 0) (nO_36 M k q v3) ?_
            refine y_imul (dtk dt_X12_newOrder 33 (59, .imul, 1) rfl) ⟨by omega, by omega⟩ ?_
            refine x_iload_n (dtk dt_X12_newOrder 34 (60, .iload_n 3, 1) rfl) rfl ?_
            refine y_iadd (dtk dt_X12_newOrder 35 (61, .iadd, 1) rfl) ⟨by omega, by omega⟩ ?_
            refine x_iconst (v := 0) ⟨by decide, by decide⟩ (dtk dt_X12_newOrder 36 (62, .iconst 0, 1) rfl) ?_
            refine x_iast (dtk dt_X12_newOrder 37 (63, .iastore, 1) rfl) (wk_39 hm.1) ⟨by omega, by omega⟩ ?_
            refine y_iinc (dtk dt_X12_newOrder 38 (64, .iinc 3 1, 3) rfl) rfl (by decide) ⟨by omega, by omega⟩ ?_
            refine x_goto (tgt := 43) (dtk dt_X12_newOrder 39 (67, .goto (-24), 3) rfl) (by decide) ?_
            refine MW.sub [1, 2, 3, 0] rfl ?_
            refine MW.mem (nO_s M k q h1.1) ?_
            exact ih43 _ (by omega) _ (by omega) rfl
      refine MW.sub [1, 2, 3, 0] rfl ?_
      refine MW.mem (nO_0 M k q) ?_
      exact L43 _ _ (by omega) rfl
    · skip
      exact absurd c12 (by omega)
set_option maxRecDepth 100000 in
set_option maxHeartbeats 4000000 in
theorem c_X12_newOrder_no {G : GG} {n : Nat} {K : KK} {M : MM} {k q : Int} (hm : MO K M) (hno : M 36 0 = 8 ∨ 10 < q) : MC G mi_X12_newOrder 2 0 0 [(1, 36), (0, k), (0, q)] n K M (PQ (some (0, -1)) n K (st2 M 36 12 2)) := by
  refine MC.intro (lc := [(0, (1, 36)), (1, (0, k)), (2, (0, q))]) (by decide) rfl (by simp [Nat.ble]) (Nat.le_of_ble_eq_true rfl) rfl (fun hMR => ?_)
  refine x_aload_n (dtk dt_X12_newOrder 0 (0, .aload_n 0, 1) rfl) rfl ?_
  refine fg_X12_71 rfl (dtk dt_X12_newOrder 1 (1, .getfield 71, 3) rfl) (wk_36 hm.1) rfl ?_
  refine x_bipush (v := 8) ⟨by decide, by decide⟩ (dtk dt_X12_newOrder 2 (4, .bipush 8, 2) rfl) ?_
  refine x_icmp_eq (tgt := 15) (dtk dt_X12_newOrder 3 (6, .if_icmp .eq 9, 3) rfl) (by decide) (fun c6 => ?_) (fun c6 => ?_)
  · skip
    refine x_aload_n (dtk dt_X12_newOrder 7 (15, .aload_n 0, 1) rfl) rfl ?_
    refine x_iconst (v := 2) ⟨by decide, by decide⟩ (dtk dt_X12_newOrder 8 (16, .iconst 2, 1) rfl) ?_
    refine kc_X12_89 rfl (dtk dt_X12_newOrder 9 (17, .invokevirtual 89, 3) rfl) (c_X12_refused (G := G)  hm.1) rfl rfl (wk_36 hm.1) (fitR (by decide) (by decide)) (Nat.le_of_ble_eq_true rfl) (pqK ?_)
    exact r_i (dtk dt_X12_newOrder 10 (20, .ireturn, 1) rfl) rfl rfl rfl
  · skip
    refine x_iload_n (dtk dt_X12_newOrder 4 (9, .iload_n 2, 1) rfl) rfl ?_
    refine x_bipush (v := 10) ⟨by decide, by decide⟩ (dtk dt_X12_newOrder 5 (10, .bipush 10, 2) rfl) ?_
    refine x_icmp_le (tgt := 21) (dtk dt_X12_newOrder 6 (12, .if_icmp .le 9, 3) rfl) (by decide) (fun c12 => ?_) (fun c12 => ?_)
    · skip
      exact absurd c12 (by omega)
    · skip
      refine x_aload_n (dtk dt_X12_newOrder 7 (15, .aload_n 0, 1) rfl) rfl ?_
      refine x_iconst (v := 2) ⟨by decide, by decide⟩ (dtk dt_X12_newOrder 8 (16, .iconst 2, 1) rfl) ?_
      refine kc_X12_89 rfl (dtk dt_X12_newOrder 9 (17, .invokevirtual 89, 3) rfl) (c_X12_refused (G := G)  hm.1) rfl rfl (wk_36 hm.1) (fitR (by decide) (by decide)) (Nat.le_of_ble_eq_true rfl) (pqK ?_)
      exact r_i (dtk dt_X12_newOrder 10 (20, .ireturn, 1) rfl) rfl rfl rfl
set_option maxRecDepth 100000 in
set_option maxHeartbeats 4000000 in
theorem c_X12_order {G : GG} {n : Nat} {K : KK} {M : MM} {q : Int} (hm : MO K M) : MC G mi_X12_order 3 0 0 [(1, 36), (0, q)] n K M (PQ (some (0, if 0 ≤ q ∧ q ≤ 10 then (if M 36 0 < 8 then M 36 0 else -1) else -1)) n K (if 0 ≤ q ∧ q ≤ 10 then (if M 36 0 < 8 then crM M 0 q (fun _ => 0) else st2 M 36 12 2) else st2 M 36 12 1)) := by
  refine MC.intro (lc := [(0, (1, 36)), (1, (0, q))]) (by decide) rfl (by simp [Nat.ble]) (Nat.le_of_ble_eq_true rfl) rfl (fun hMR => ?_)
  have h0 := hm.2.1
  refine x_iload_n (dtk dt_X12_order 0 (0, .iload_n 1, 1) rfl) rfl ?_
  refine x_iconst (v := 0) ⟨by decide, by decide⟩ (dtk dt_X12_order 1 (1, .iconst 0, 1) rfl) ?_
  refine x_bipush (v := 10) ⟨by decide, by decide⟩ (dtk dt_X12_order 2 (2, .bipush 10, 2) rfl) ?_
  refine kc_X12_74 rfl (dtk dt_X12_order 3 (4, .invokestatic 74, 3) rfl) (c_X12_in (G := G)  ) rfl rfl (fitR (by decide) (by decide)) (Nat.le_of_ble_eq_true rfl) (pqK ?_)
  refine x_if_eqB (tgt := 19) (dtk dt_X12_order 4 (7, .ifCond .eq 12, 3) rfl) (by decide) (fun c7 => ?_) (fun c7 => ?_)
  · skip
    have hq : ¬ (0 ≤ q ∧ q ≤ 10) := by (simp at c7; omega)
    refine x_aload_n (dtk dt_X12_order 10 (19, .aload_n 0, 1) rfl) rfl ?_
    refine x_iconst (v := 1) ⟨by decide, by decide⟩ (dtk dt_X12_order 11 (20, .iconst 1, 1) rfl) ?_
    refine kc_X12_89 rfl (dtk dt_X12_order 12 (21, .invokevirtual 89, 3) rfl) (c_X12_refused (G := G)  hm.1) rfl rfl (wk_36 hm.1) (fitR (by decide) (by decide)) (Nat.le_of_ble_eq_true rfl) (pqK ?_)
    exact r_i (dtk dt_X12_order 13 (24, .ireturn, 1) rfl) rfl (by simp_all <;> omega) (by simp_all <;> omega)
  · skip
    have hq : 0 ≤ q ∧ q ≤ 10 := by (simp at c7; omega)
    refine x_aload_n (dtk dt_X12_order 5 (10, .aload_n 0, 1) rfl) rfl ?_
    refine x_iconst (v := 0) ⟨by decide, by decide⟩ (dtk dt_X12_order 6 (11, .iconst 0, 1) rfl) ?_
    refine x_iload_n (dtk dt_X12_order 7 (12, .iload_n 1, 1) rfl) rfl ?_
    by_cases hsp13_0 : M 36 0 < 8
    · skip
      refine kc_X12_100 rfl (dtk dt_X12_order 8 (13, .invokevirtual 100, 3) rfl) (c_X12_newOrder (G := G)  hm (by omega) (by omega)) rfl rfl (wk_36 hm.1) (fitR (by decide) (by decide)) (Nat.le_of_ble_eq_true rfl) (pqK ?_)
      refine x_goto (tgt := 24) (dtk dt_X12_order 9 (16, .goto 8, 3) rfl) (by decide) ?_
      exact r_i (dtk dt_X12_order 13 (24, .ireturn, 1) rfl) rfl (by simp_all <;> omega) (by simp_all <;> omega)
    refine kc_X12_100 rfl (dtk dt_X12_order 8 (13, .invokevirtual 100, 3) rfl) (c_X12_newOrder_no (G := G)  hm (by omega)) rfl rfl (wk_36 hm.1) (fitR (by decide) (by decide)) (Nat.le_of_ble_eq_true rfl) (pqK ?_)
    refine x_goto (tgt := 24) (dtk dt_X12_order 9 (16, .goto 8, 3) rfl) (by decide) ?_
    exact r_i (dtk dt_X12_order 13 (24, .ireturn, 1) rfl) rfl (by simp_all <;> omega) (by simp_all <;> omega)
set_option maxRecDepth 100000 in
set_option maxHeartbeats 4000000 in
theorem c_X12_tell {G : GG} {n : Nat} {K : KK} {M : MM} {o a b : Int} (hm : MO K M) (ho : 0 ≤ o ∧ o < 8) (ha : 0 ≤ a ∧ a < M 38 o) (hb : 0 ≤ b ∧ b < 10) : MC G mi_X12_tell 3 0 0 [(1, 36), (0, o), (0, a), (0, b)] n K M (PQ none n K (tlM M o a b)) := by
  refine MC.intro (lc := [(0, (1, 36)), (1, (0, o)), (2, (0, a)), (3, (0, b))]) (by decide) rfl (by simp [Nat.ble]) (Nat.le_of_ble_eq_true rfl) rfl (fun hMR => ?_)
  have hsz := hm.sz ho
  refine x_aload_n (dtk dt_X12_tell 0 (0, .aload_n 0, 1) rfl) rfl ?_
  refine fg_X12_16 rfl (dtk dt_X12_tell 1 (1, .getfield 16, 3) rfl) (wk_36 hm.1) (wm_36_3 hm.1) ?_
  refine x_bipush (v := 10) ⟨by decide, by decide⟩ (dtk dt_X12_tell 2 (4, .bipush 10, 2) rfl) ?_
  refine x_iload_n (dtk dt_X12_tell 3 (6, .iload_n 1, 1) rfl) rfl ?_
  refine y_imul (dtk dt_X12_tell 4 (7, .imul, 1) rfl) ⟨by omega, by omega⟩ ?_
  refine x_iload_n (dtk dt_X12_tell 5 (8, .iload_n 2, 1) rfl) rfl ?_
  refine y_iadd (dtk dt_X12_tell 6 (9, .iadd, 1) rfl) ⟨by omega, by omega⟩ ?_
  refine x_iald (dtk dt_X12_tell 7 (10, .iaload, 1) rfl) (wk_39 hm.1) ⟨by omega, by omega⟩ ?_
  refine x_iconst (v := 1) ⟨by decide, by decide⟩ (dtk dt_X12_tell 8 (11, .iconst 1, 1) rfl) ?_
  refine x_iload_n (dtk dt_X12_tell 9 (12, .iload_n 2, 1) rfl) rfl ?_
  refine x_ishl (dtk dt_X12_tell 10 (13, .ishl, 1) rfl) ?_
  refine x_ior (dtk dt_X12_tell 11 (14, .ior, 1) rfl) ?_
  refine x_istore (dtk dt_X12_tell 12 (15, .istore 4, 2) rfl) (by decide) ?_
  refine x_iconst (v := 0) ⟨by decide, by decide⟩ (dtk dt_X12_tell 13 (17, .iconst 0, 1) rfl) ?_
  refine x_istore (dtk dt_X12_tell 14 (18, .istore 5, 2) rfl) (by decide) ?_
  have L20 : ∀ (fu : Nat) (v5 : Int), (0 ≤ v5 ∧ v5 ≤ M 38 o) → (M 38 o - v5).toNat = fu → MW G mi_X12_tell (rmd 3 0 0) (MZ G (PQ none n K (tlM M o a b)) 0 0) (0, 0) 20 [(0, (1, 36)), (1, (0, o)), (2, (0, a)), (3, (0, b)), (4, (0, zor (M 39 (10 * o + a)) (zshl 1 a))), (5, (0, v5))] [] n K (setA M 39 (tlF M o a b v5)) := by
    intro fu
    induction fu using Nat.strongRecOn with
    | ind fu ih20 =>
      intro v5 h1 hk20
      have hm1 := hm.set39 (tlF_c (b := b) (c := v5) hm ho ha (by omega))
      have e38 : setA M 39 (tlF M o a b v5) 38 o = M 38 o := by rw [setA_ne M (by decide)]
      have e39 : setA M 39 (tlF M o a b v5) 39 (10 * o + v5) = M 39 (10 * o + v5) := by rw [setA_at]; exact tlF_at M o a b ⟨h1.1, Int.le_refl _⟩
      have hA1 : AT K (setA M 39 (tlF M o a b v5)) o (M 38 o) (dM (setA M 39 (tlF M o a b v5)) o) := ⟨hm1, ho, e38, rfl⟩
      have er : rel (dM (setA M 39 (tlF M o a b v5)) o) b v5 = rel (dM M o) b v5 := by (unfold rel dM; rw [e39])
      refine x_iload (dtk dt_X12_tell 15 (20, .iload 5, 2) rfl) rfl ?_
      refine x_aload_n (dtk dt_X12_tell 16 (22, .aload_n 0, 1) rfl) rfl ?_
      refine fg_X12_13 rfl (dtk dt_X12_tell 17 (23, .getfield 13, 3) rfl) (wk_36 hm.1) (wm_36_2 hm1.1) ?_
      refine x_iload_n (dtk dt_X12_tell 18 (26, .iload_n 1, 1) rfl) rfl ?_
      refine x_iald (dtk dt_X12_tell 19 (27, .iaload, 1) rfl) (wk_38 hm.1) ⟨by omega, by omega⟩ ?_
      rw [e38]
      refine x_icmp_ge (tgt := 75) (dtk dt_X12_tell 20 (28, .if_icmp .ge 47, 3) rfl) (by decide) (fun c28 => ?_) (fun c28 => ?_)
      · skip
        refine x_aload_n (dtk dt_X12_tell 46 (75, .aload_n 0, 1) rfl) rfl ?_
        refine x_iconst (v := 0) ⟨by decide, by decide⟩ (dtk dt_X12_tell 47 (76, .iconst 0, 1) rfl) ?_
        refine fp_X12_93 rfl (dtk dt_X12_tell 48 (77, .putfield 93, 3) rfl) (wk_36 hm.1) (Or.inl rfl) ?_
        exact r_v (dtk dt_X12_tell 49 (80, .return_, 1) rfl) rfl (by rw [show v5 = M 38 o by omega]; rfl)
      · skip
        refine x_aload_n (dtk dt_X12_tell 21 (31, .aload_n 0, 1) rfl) rfl ?_
        refine fg_X12_16 rfl (dtk dt_X12_tell 22 (32, .getfield 16, 3) rfl) (wk_36 hm.1) (wm_36_3 hm1.1) ?_
        refine x_bipush (v := 10) ⟨by decide, by decide⟩ (dtk dt_X12_tell 23 (35, .bipush 10, 2) rfl) ?_
        refine x_iload_n (dtk dt_X12_tell 24 (37, .iload_n 1, 1) rfl) rfl ?_
        refine y_imul (dtk dt_X12_tell 25 (38, .imul, 1) rfl) ⟨by omega, by omega⟩ ?_
        refine x_iload (dtk dt_X12_tell 26 (39, .iload 5, 2) rfl) rfl ?_
        refine y_iadd (dtk dt_X12_tell 27 (41, .iadd, 1) rfl) ⟨by omega, by omega⟩ ?_
        refine x_dup2 rfl rfl (dtk dt_X12_tell 28 (42, .dup2, 1) rfl) ?_
        refine x_iald (dtk dt_X12_tell 29 (43, .iaload, 1) rfl) (wk_39 hm.1) ⟨by omega, by omega⟩ ?_
        rw [e39]
        refine x_iload (dtk dt_X12_tell 30 (44, .iload 5, 2) rfl) rfl ?_
        refine x_iload_n (dtk dt_X12_tell 31 (46, .iload_n 3, 1) rfl) rfl ?_
        refine x_icmp_eq (tgt := 61) (dtk dt_X12_tell 32 (47, .if_icmp .eq 14, 3) rfl) (by decide) (fun c47 => ?_) (fun c47 => ?_)
        · skip
          refine x_iload (dtk dt_X12_tell 39 (61, .iload 4, 2) rfl) rfl ?_
          refine x_goto (tgt := 67) (dtk dt_X12_tell 40 (63, .goto 4, 3) rfl) (by decide) ?_
          refine x_ior (dtk dt_X12_tell 42 (67, .ior, 1) rfl) ?_
          refine x_iast (dtk dt_X12_tell 43 (68, .iastore, 1) rfl) (wk_39 hm.1) ⟨by omega, by omega⟩ ?_
          refine y_iinc (dtk dt_X12_tell 44 (69, .iinc 5 1, 3) rfl) rfl (by decide) ⟨by omega, by omega⟩ ?_
          refine x_goto (tgt := 20) (dtk dt_X12_tell 45 (72, .goto (-52), 3) rfl) (by decide) ?_
          refine MW.sub [1, 2, 3, 4, 5, 0] rfl ?_
          refine MW.mem (tlF_s hm ho (by omega) (by omega) _ (by clear ih20; simp_all)) ?_
          exact ih20 _ (by omega) _ (by omega) rfl
        · skip
          refine x_aload_n (dtk dt_X12_tell 33 (50, .aload_n 0, 1) rfl) rfl ?_
          refine x_iload_n (dtk dt_X12_tell 34 (51, .iload_n 1, 1) rfl) rfl ?_
          refine x_iload_n (dtk dt_X12_tell 35 (52, .iload_n 3, 1) rfl) rfl ?_
          refine x_iload (dtk dt_X12_tell 36 (53, .iload 5, 2) rfl) rfl ?_
          refine kc_X12_86 rfl (dtk dt_X12_tell 37 (55, .invokevirtual 86, 3) rfl) (c_X12_isBelow (G := G)  hA1 (by omega) (by omega)) rfl rfl (wk_36 hm.1) (fitR (by decide) (by decide)) (Nat.le_of_ble_eq_true rfl) (pqK ?_)
          rw [er]
          refine x_if_eqB (tgt := 66) (dtk dt_X12_tell 38 (58, .ifCond .eq 8, 3) rfl) (by decide) (fun c58 => ?_) (fun c58 => ?_)
          · skip
            refine x_iconst (v := 0) ⟨by decide, by decide⟩ (dtk dt_X12_tell 41 (66, .iconst 0, 1) rfl) ?_
            refine x_ior (dtk dt_X12_tell 42 (67, .ior, 1) rfl) ?_
            refine x_iast (dtk dt_X12_tell 43 (68, .iastore, 1) rfl) (wk_39 hm.1) ⟨by omega, by omega⟩ ?_
            refine y_iinc (dtk dt_X12_tell 44 (69, .iinc 5 1, 3) rfl) rfl (by decide) ⟨by omega, by omega⟩ ?_
            refine x_goto (tgt := 20) (dtk dt_X12_tell 45 (72, .goto (-52), 3) rfl) (by decide) ?_
            refine MW.sub [1, 2, 3, 4, 5, 0] rfl ?_
            refine MW.mem (tlF_s hm ho (by omega) (by omega) _ (by clear ih20; simp_all)) ?_
            exact ih20 _ (by omega) _ (by omega) rfl
          · skip
            refine x_iload (dtk dt_X12_tell 39 (61, .iload 4, 2) rfl) rfl ?_
            refine x_goto (tgt := 67) (dtk dt_X12_tell 40 (63, .goto 4, 3) rfl) (by decide) ?_
            refine x_ior (dtk dt_X12_tell 42 (67, .ior, 1) rfl) ?_
            refine x_iast (dtk dt_X12_tell 43 (68, .iastore, 1) rfl) (wk_39 hm.1) ⟨by omega, by omega⟩ ?_
            refine y_iinc (dtk dt_X12_tell 44 (69, .iinc 5 1, 3) rfl) rfl (by decide) ⟨by omega, by omega⟩ ?_
            refine x_goto (tgt := 20) (dtk dt_X12_tell 45 (72, .goto (-52), 3) rfl) (by decide) ?_
            refine MW.sub [1, 2, 3, 4, 5, 0] rfl ?_
            refine MW.mem (tlF_s hm ho (by omega) (by omega) _ (by clear ih20; simp_all)) ?_
            exact ih20 _ (by omega) _ (by omega) rfl
  refine MW.sub [2, 3, 4, 5, 1, 0] rfl ?_
  refine MW.mem (tlF_0 M o a b) ?_
  exact L20 _ _ (by omega) rfl
set_option maxRecDepth 100000 in
set_option maxHeartbeats 4000000 in
theorem c_X12_row {G : GG} {n : Nat} {K : KK} {M : MM} {q : Int} (hm : MO K M) : MC G mi_X12_row 3 0 0 [(1, 36), (0, q)] n K M (PQ (some (0, if 0 ≤ q ∧ q ≤ 10 then (if M 36 0 < 8 then M 36 0 else -1) else -1)) n K (if 0 ≤ q ∧ q ≤ 10 then (if M 36 0 < 8 then crM M 5 q (fun b => if b < q then zshl 1 b - 1 else 0) else st2 M 36 12 2) else st2 M 36 12 1)) := by
  refine MC.intro (lc := [(0, (1, 36)), (1, (0, q))]) (by decide) rfl (by simp [Nat.ble]) (Nat.le_of_ble_eq_true rfl) rfl (fun hMR => ?_)
  have h0 := hm.2.1
  refine x_iload_n (dtk dt_X12_row 0 (0, .iload_n 1, 1) rfl) rfl ?_
  refine x_iconst (v := 0) ⟨by decide, by decide⟩ (dtk dt_X12_row 1 (1, .iconst 0, 1) rfl) ?_
  refine x_bipush (v := 10) ⟨by decide, by decide⟩ (dtk dt_X12_row 2 (2, .bipush 10, 2) rfl) ?_
  refine kc_X12_74 rfl (dtk dt_X12_row 3 (4, .invokestatic 74, 3) rfl) (c_X12_in (G := G)  ) rfl rfl (fitR (by decide) (by decide)) (Nat.le_of_ble_eq_true rfl) (pqK ?_)
  refine x_if_neB (tgt := 16) (dtk dt_X12_row 4 (7, .ifCond .ne 9, 3) rfl) (by decide) (fun c7 => ?_) (fun c7 => ?_)
  · skip
    have hq : 0 ≤ q ∧ q ≤ 10 := by (simp at c7; omega)
    refine x_aload_n (dtk dt_X12_row 9 (16, .aload_n 0, 1) rfl) rfl ?_
    refine x_iconst (v := 5) ⟨by decide, by decide⟩ (dtk dt_X12_row 10 (17, .iconst 5, 1) rfl) ?_
    refine x_iload_n (dtk dt_X12_row 11 (18, .iload_n 1, 1) rfl) rfl ?_
    by_cases hsp19_0 : M 36 0 < 8
    · skip
      have hlt : M 36 0 < 8 := hsp19_0
      refine kc_X12_100 rfl (dtk dt_X12_row 12 (19, .invokevirtual 100, 3) rfl) (c_X12_newOrder (G := G)  hm (by omega) (by omega)) rfl rfl (wk_36 hm.1) (fitR (by decide) (by decide)) (Nat.le_of_ble_eq_true rfl) (pqK ?_)
      refine x_istore_n (dtk dt_X12_row 13 (22, .istore_n 2, 1) rfl) (by decide) ?_
      refine x_iconst (v := 0) ⟨by decide, by decide⟩ (dtk dt_X12_row 14 (23, .iconst 0, 1) rfl) ?_
      refine x_istore_n (dtk dt_X12_row 15 (24, .istore_n 3, 1) rfl) (by decide) ?_
      have L25 : ∀ (fu : Nat) (v3 : Int), (0 ≤ v3 ∧ v3 ≤ q) → (q - v3).toNat = fu → MW G mi_X12_row (rmd 3 0 0) (MZ G (PQ (some (0, if 0 ≤ q ∧ q ≤ 10 then (if M 36 0 < 8 then M 36 0 else -1) else -1)) n K (if 0 ≤ q ∧ q ≤ 10 then (if M 36 0 < 8 then crM M 5 q (fun b => if b < q then zshl 1 b - 1 else 0) else st2 M 36 12 2) else st2 M 36 12 1)) 0 0) (0, 0) 25 [(0, (1, 36)), (1, (0, q)), (2, (0, M 36 0)), (3, (0, v3))] [] n K (crM M 5 q (fun b => if b < v3 then zshl 1 b - 1 else 0)) := by
        intro fu
        induction fu using Nat.strongRecOn with
        | ind fu ih25 =>
          intro v3 h1 hk25
          refine x_iload_n (dtk dt_X12_row 16 (25, .iload_n 2, 1) rfl) rfl ?_
          refine x_iconst (v := -1) ⟨by decide, by decide⟩ (dtk dt_X12_row 17 (26, .iconst (-1), 1) rfl) ?_
          refine x_icmp_eq (tgt := 57) (dtk dt_X12_row 18 (27, .if_icmp .eq 30, 3) rfl) (by decide) (fun c27 => ?_) (fun c27 => ?_)
          · skip
            exact absurd c27 (by omega)
          · skip
            refine x_iload_n (dtk dt_X12_row 19 (30, .iload_n 3, 1) rfl) rfl ?_
            refine x_iload_n (dtk dt_X12_row 20 (31, .iload_n 1, 1) rfl) rfl ?_
            refine x_icmp_ge (tgt := 57) (dtk dt_X12_row 21 (32, .if_icmp .ge 25, 3) rfl) (by decide) (fun c32 => ?_) (fun c32 => ?_)
            · skip
              refine x_iload_n (dtk dt_X12_row 37 (57, .iload_n 2, 1) rfl) rfl ?_
              exact r_i (dtk dt_X12_row 38 (58, .ireturn, 1) rfl) rfl (by simp_all <;> omega) (by first | (simp_all <;> omega) | (rw [if_pos hq, if_pos hlt, show v3 = q by omega]))
            · skip
              refine x_aload_n (dtk dt_X12_row 22 (35, .aload_n 0, 1) rfl) rfl ?_
              refine fg_X12_16 rfl (dtk dt_X12_row 23 (36, .getfield 16, 3) rfl) (wk_36 hm.1) (wm_36_3 (WF.cr hm.1 _ _ _)) ?_
              refine x_bipush (v := 10) ⟨by decide, by decide⟩ (dtk dt_X12_row 24 (39, .bipush 10, 2) rfl) ?_
              refine x_iload_n (dtk dt_X12_row 25 (41, .iload_n 2, 1) rfl) rfl ?_
              refine y_imul (dtk dt_X12_row 26 (42, .imul, 1) rfl) ⟨by omega, by omega⟩ ?_
              refine x_iload_n (dtk dt_X12_row 27 (43, .iload_n 3, 1) rfl) rfl ?_
              refine y_iadd (dtk dt_X12_row 28 (44, .iadd, 1) rfl) ⟨by omega, by omega⟩ ?_
              refine x_iconst (v := 1) ⟨by decide, by decide⟩ (dtk dt_X12_row 29 (45, .iconst 1, 1) rfl) ?_
              refine x_iload_n (dtk dt_X12_row 30 (46, .iload_n 3, 1) rfl) rfl ?_
              refine x_ishl (dtk dt_X12_row 31 (47, .ishl, 1) rfl) ?_
              have hs1 := shl10 (a := v3) (by omega)
              refine x_iconst (v := 1) ⟨by decide, by decide⟩ (dtk dt_X12_row 32 (48, .iconst 1, 1) rfl) ?_
              refine y_isub (dtk dt_X12_row 33 (49, .isub, 1) rfl) ⟨by omega, by omega⟩ ?_
              refine x_iast (dtk dt_X12_row 34 (50, .iastore, 1) rfl) (wk_39 hm.1) ⟨by omega, by omega⟩ ?_
              refine y_iinc (dtk dt_X12_row 35 (51, .iinc 3 1, 3) rfl) rfl (by decide) ⟨by omega, by omega⟩ ?_
              refine x_goto (tgt := 25) (dtk dt_X12_row 36 (54, .goto (-29), 3) rfl) (by decide) ?_
              refine MW.sub [1, 2, 3, 0] rfl ?_
              refine MW.mem ((crM_st (by omega)).trans (crM_congr (g := fun b => if b < v3 + 1 then zshl 1 b - 1 else 0) (fun e h0 h1 => by by_cases he : e = v3; (subst he; simp; omega); (have : (e < v3 + 1) ↔ (e < v3) := (by omega); simp [he, this])))) ?_
              exact ih25 _ (by omega) _ (by omega) rfl
      refine MW.sub [2, 3, 1, 0] rfl ?_
      refine MW.mem (crM_congr (g := fun b => if b < 0 then zshl 1 b - 1 else 0) (fun e h0 h1 => by simp; omega)) ?_
      exact L25 _ _ (by omega) rfl
    refine kc_X12_100 rfl (dtk dt_X12_row 12 (19, .invokevirtual 100, 3) rfl) (c_X12_newOrder_no (G := G)  hm (by omega)) rfl rfl (wk_36 hm.1) (fitR (by decide) (by decide)) (Nat.le_of_ble_eq_true rfl) (pqK ?_)
    refine x_istore_n (dtk dt_X12_row 13 (22, .istore_n 2, 1) rfl) (by decide) ?_
    refine x_iconst (v := 0) ⟨by decide, by decide⟩ (dtk dt_X12_row 14 (23, .iconst 0, 1) rfl) ?_
    refine x_istore_n (dtk dt_X12_row 15 (24, .istore_n 3, 1) rfl) (by decide) ?_
    refine x_iload_n (dtk dt_X12_row 16 (25, .iload_n 2, 1) rfl) rfl ?_
    refine x_iconst (v := -1) ⟨by decide, by decide⟩ (dtk dt_X12_row 17 (26, .iconst (-1), 1) rfl) ?_
    refine x_icmp_eq (tgt := 57) (dtk dt_X12_row 18 (27, .if_icmp .eq 30, 3) rfl) (by decide) (fun c27 => ?_) (fun c27 => ?_)
    rotate_left
    · exact absurd (by decide) c27
    refine x_iload_n (dtk dt_X12_row 37 (57, .iload_n 2, 1) rfl) rfl ?_
    exact r_i (dtk dt_X12_row 38 (58, .ireturn, 1) rfl) rfl (by simp_all <;> omega) (by first | (simp_all <;> omega) | (rw [if_pos hq, if_pos hlt, show v3 = q by omega]))
  · skip
    have hq : ¬ (0 ≤ q ∧ q ≤ 10) := by (simp at c7; omega)
    refine x_aload_n (dtk dt_X12_row 5 (10, .aload_n 0, 1) rfl) rfl ?_
    refine x_iconst (v := 1) ⟨by decide, by decide⟩ (dtk dt_X12_row 6 (11, .iconst 1, 1) rfl) ?_
    refine kc_X12_89 rfl (dtk dt_X12_row 7 (12, .invokevirtual 89, 3) rfl) (c_X12_refused (G := G)  hm.1) rfl rfl (wk_36 hm.1) (fitR (by decide) (by decide)) (Nat.le_of_ble_eq_true rfl) (pqK ?_)
    exact r_i (dtk dt_X12_row 8 (15, .ireturn, 1) rfl) rfl (by simp_all <;> omega) (by first | (simp_all <;> omega) | (rw [if_pos hq, if_pos hlt, show v3 = q by omega]))
