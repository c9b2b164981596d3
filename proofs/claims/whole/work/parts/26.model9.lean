/-! ===== the model: sheets ===== -/
set_option maxRecDepth 100000 in
set_option maxHeartbeats 4000000 in
theorem c_X12_sheet {G : GG} {n : Nat} {K : KK} {M : MM} {s so q : Int} (hw : WF K M) : MC G mi_X12_sheet 2 0 0 [(1, 36), (0, s), (0, so), (0, q)] n K M (PQ (some (0, if (decide (0 ≤ s) && decide (s ≤ 3)) && (decide (-1 ≤ so) && decide (so ≤ 2)) && (decide (so = -1) || (decide (0 ≤ q) && decide (q ≤ 20))) then 1 else -1)) n K (if (decide (0 ≤ s) && decide (s ≤ 3)) && (decide (-1 ≤ so) && decide (so ≤ 2)) && (decide (so = -1) || (decide (0 ≤ q) && decide (q ≤ 20))) then st2 (shM M s so (if so = -1 then 0 else q) 20) 36 12 0 else st2 M 36 12 1)) := by
  refine MC.intro (lc := [(0, (1, 36)), (1, (0, s)), (2, (0, so)), (3, (0, q))]) (by decide) rfl (by simp [Nat.ble]) (Nat.le_of_ble_eq_true rfl) rfl (fun hMR => ?_)
  have J39_2 : (((decide (0 ≤ s) && decide (s ≤ 3)) && (decide (-1 ≤ so) && decide (so ≤ 2)) && (decide (so = -1) || (decide (0 ≤ q) && decide (q ≤ 20)))) = true) → MW G mi_X12_sheet (rmd 2 0 0) (MZ G (PQ (some (0, if (decide (0 ≤ s) && decide (s ≤ 3)) && (decide (-1 ≤ so) && decide (so ≤ 2)) && (decide (so = -1) || (decide (0 ≤ q) && decide (q ≤ 20))) then 1 else -1)) n K (if (decide (0 ≤ s) && decide (s ≤ 3)) && (decide (-1 ≤ so) && decide (so ≤ 2)) && (decide (so = -1) || (decide (0 ≤ q) && decide (q ≤ 20))) then st2 (shM M s so (if so = -1 then 0 else q) 20) 36 12 0 else st2 M 36 12 1)) 0 0) (0, 0) 39 [(0, (1, 36)), (1, (0, s)), (2, (0, so)), (3, (0, q))] [] n K (M) := by
    intro  hok
    have hs : 0 ≤ s ∧ s ≤ 3 := by (simp at hok; omega)
    refine x_aload_n (dtk dt_X12_sheet 22 (39, .aload_n 0, 1) rfl) rfl ?_
    refine fg_X12_29 rfl (dtk dt_X12_sheet 23 (40, .getfield 29, 3) rfl) (wk_36 hw) (wm_36_9 hw) ?_
    refine x_iload_n (dtk dt_X12_sheet 24 (43, .iload_n 1, 1) rfl) rfl ?_
    refine x_iload_n (dtk dt_X12_sheet 25 (44, .iload_n 2, 1) rfl) rfl ?_
    refine x_iast (dtk dt_X12_sheet 26 (45, .iastore, 1) rfl) (wk_42 hw) ⟨by omega, by omega⟩ ?_
    have J61_4 : ∀ (jq : Int), (jq = (if so = -1 then 0 else q)) → MW G mi_X12_sheet (rmd 2 0 0) (MZ G (PQ (some (0, if (decide (0 ≤ s) && decide (s ≤ 3)) && (decide (-1 ≤ so) && decide (so ≤ 2)) && (decide (so = -1) || (decide (0 ≤ q) && decide (q ≤ 20))) then 1 else -1)) n K (if (decide (0 ≤ s) && decide (s ≤ 3)) && (decide (-1 ≤ so) && decide (so ≤ 2)) && (decide (so = -1) || (decide (0 ≤ q) && decide (q ≤ 20))) then st2 (shM M s so (if so = -1 then 0 else q) 20) 36 12 0 else st2 M 36 12 1)) 0 0) (0, 0) 61 [(0, (1, 36)), (1, (0, s)), (2, (0, so)), (3, (0, q))] [(0, jq), (0, s), (1, 43)] n K (st2 M 42 s so) := by
      intro jq hJ
      refine x_iast (dtk dt_X12_sheet 36 (61, .iastore, 1) rfl) (wk_43 hw) ⟨by omega, by omega⟩ ?_
      refine x_iconst (v := 0) ⟨by decide, by decide⟩ (dtk dt_X12_sheet 37 (62, .iconst 0, 1) rfl) ?_
      refine x_istore (dtk dt_X12_sheet 38 (63, .istore 4, 2) rfl) (by decide) ?_
      have L65 : ∀ (fu : Nat) (v4 : Int), (0 ≤ v4 ∧ v4 ≤ 20) → (20 - v4).toNat = fu → MW G mi_X12_sheet (rmd 2 0 0) (MZ G (PQ (some (0, if (decide (0 ≤ s) && decide (s ≤ 3)) && (decide (-1 ≤ so) && decide (so ≤ 2)) && (decide (so = -1) || (decide (0 ≤ q) && decide (q ≤ 20))) then 1 else -1)) n K (if (decide (0 ≤ s) && decide (s ≤ 3)) && (decide (-1 ≤ so) && decide (so ≤ 2)) && (decide (so = -1) || (decide (0 ≤ q) && decide (q ≤ 20))) then st2 (shM M s so (if so = -1 then 0 else q) 20) 36 12 0 else st2 M 36 12 1)) 0 0) (0, 0) 65 [(0, (1, 36)), (1, (0, s)), (2, (0, so)), (3, (0, q)), (4, (0, v4))] [] n K (shM M s so jq v4) := by
        intro fu
        induction fu using Nat.strongRecOn with
        | ind fu ih65 =>
          intro v4 h1 hk65
          refine x_iload (dtk dt_X12_sheet 39 (65, .iload 4, 2) rfl) rfl ?_
          refine x_bipush (v := 20) ⟨by decide, by decide⟩ (dtk dt_X12_sheet 40 (67, .bipush 20, 2) rfl) ?_
          refine x_icmp_ge (tgt := 91) (dtk dt_X12_sheet 41 (69, .if_icmp .ge 22, 3) rfl) (by decide) (fun c69 => ?_) (fun c69 => ?_)
          · skip
            refine x_aload_n (dtk dt_X12_sheet 53 (91, .aload_n 0, 1) rfl) rfl ?_
            refine x_iconst (v := 1) ⟨by decide, by decide⟩ (dtk dt_X12_sheet 54 (92, .iconst 1, 1) rfl) ?_
            refine kc_X12_97 rfl (dtk dt_X12_sheet 55 (93, .invokevirtual 97, 3) rfl) (c_X12_done (G := G)  (WF.sh hw)) rfl rfl (wk_36 hw) (fitR (by decide) (by decide)) (Nat.le_of_ble_eq_true rfl) (pqK ?_)
            exact r_i (dtk dt_X12_sheet 56 (96, .ireturn, 1) rfl) rfl (by rw [if_pos hok]) (by rw [if_pos hok, show v4 = 20 by omega, hJ])
          · skip
            refine x_aload_n (dtk dt_X12_sheet 42 (72, .aload_n 0, 1) rfl) rfl ?_
            refine fg_X12_35 rfl (dtk dt_X12_sheet 43 (73, .getfield 35, 3) rfl) (wk_36 hw) (wm_36_11 (WF.sh hw)) ?_
            refine x_bipush (v := 20) ⟨by decide, by decide⟩ (dtk dt_X12_sheet 44 (76, .bipush 20, 2) rfl) ?_
            refine x_iload_n (dtk dt_X12_sheet 45 (78, .iload_n 1, 1) rfl) rfl ?_
            refine y_imul (dtk dt_X12_sheet 46 (79, .imul, 1) rfl) ⟨by omega, by omega⟩ ?_
            refine x_iload (dtk dt_X12_sheet 47 (80, .iload 4, 2) rfl) rfl ?_
            refine y_iadd (dtk dt_X12_sheet 48 (82, .iadd, 1) rfl) ⟨by omega, by omega⟩ ?_
            refine x_iconst (v := 0) ⟨by decide, by decide⟩ (dtk dt_X12_sheet 49 (83, .iconst 0, 1) rfl) ?_
            refine x_iast (dtk dt_X12_sheet 50 (84, .iastore, 1) rfl) (wk_44 hw) ⟨by omega, by omega⟩ ?_
            refine y_iinc (dtk dt_X12_sheet 51 (85, .iinc 4 1, 3) rfl) rfl (by decide) ⟨by omega, by omega⟩ ?_
            refine x_goto (tgt := 65) (dtk dt_X12_sheet 52 (88, .goto (-23), 3) rfl) (by decide) ?_
            refine MW.sub [1, 2, 3, 4, 0] rfl ?_
            refine MW.mem (shM_s M s so jq h1.1) ?_
            exact ih65 _ (by omega) _ (by omega) rfl
      refine MW.sub [1, 2, 3, 4, 0] rfl ?_
      refine MW.mem (shM_0 M s so jq) ?_
      exact L65 _ _ (by omega) rfl
    refine x_aload_n (dtk dt_X12_sheet 27 (46, .aload_n 0, 1) rfl) rfl ?_
    refine fg_X12_32 rfl (dtk dt_X12_sheet 28 (47, .getfield 32, 3) rfl) (wk_36 hw) (wm_36_10 (WF.arr 42 rfl hw)) ?_
    refine x_iload_n (dtk dt_X12_sheet 29 (50, .iload_n 1, 1) rfl) rfl ?_
    refine x_iload_n (dtk dt_X12_sheet 30 (51, .iload_n 2, 1) rfl) rfl ?_
    refine x_iconst (v := -1) ⟨by decide, by decide⟩ (dtk dt_X12_sheet 31 (52, .iconst (-1), 1) rfl) ?_
    refine x_icmp_ne (tgt := 60) (dtk dt_X12_sheet 32 (53, .if_icmp .ne 7, 3) rfl) (by decide) (fun c53 => ?_) (fun c53 => ?_)
    · skip
      refine x_iload_n (dtk dt_X12_sheet 35 (60, .iload_n 3, 1) rfl) rfl ?_
      refine MW.sub [0, 1, 2, 3] rfl ?_
      exact J61_4 _ (by simp_all)
    · skip
      refine x_iconst (v := 0) ⟨by decide, by decide⟩ (dtk dt_X12_sheet 33 (56, .iconst 0, 1) rfl) ?_
      refine x_goto (tgt := 61) (dtk dt_X12_sheet 34 (57, .goto 4, 3) rfl) (by decide) ?_
      refine MW.sub [0, 1, 2, 3] rfl ?_
      exact J61_4 _ (by simp_all)
  refine x_iload_n (dtk dt_X12_sheet 0 (0, .iload_n 1, 1) rfl) rfl ?_
  refine x_iconst (v := 0) ⟨by decide, by decide⟩ (dtk dt_X12_sheet 1 (1, .iconst 0, 1) rfl) ?_
  refine x_iconst (v := 3) ⟨by decide, by decide⟩ (dtk dt_X12_sheet 2 (2, .iconst 3, 1) rfl) ?_
  refine kc_X12_74 rfl (dtk dt_X12_sheet 3 (3, .invokestatic 74, 3) rfl) (c_X12_in (G := G)  ) rfl rfl (fitR (by decide) (by decide)) (Nat.le_of_ble_eq_true rfl) (pqK ?_)
  refine x_if_eqB (tgt := 33) (dtk dt_X12_sheet 4 (6, .ifCond .eq 27, 3) rfl) (by decide) (fun c6 => ?_) (fun c6 => ?_)
  · skip
    refine x_aload_n (dtk dt_X12_sheet 18 (33, .aload_n 0, 1) rfl) rfl ?_
    refine x_iconst (v := 1) ⟨by decide, by decide⟩ (dtk dt_X12_sheet 19 (34, .iconst 1, 1) rfl) ?_
    refine kc_X12_89 rfl (dtk dt_X12_sheet 20 (35, .invokevirtual 89, 3) rfl) (c_X12_refused (G := G)  hw) rfl rfl (wk_36 hw) (fitR (by decide) (by decide)) (Nat.le_of_ble_eq_true rfl) (pqK ?_)
    exact r_i (dtk dt_X12_sheet 21 (38, .ireturn, 1) rfl) rfl (by rw [if_neg (by simp_all <;> omega)]) (by rw [if_neg (by simp_all <;> omega)])
  · skip
    refine x_iload_n (dtk dt_X12_sheet 5 (9, .iload_n 2, 1) rfl) rfl ?_
    refine x_iconst (v := -1) ⟨by decide, by decide⟩ (dtk dt_X12_sheet 6 (10, .iconst (-1), 1) rfl) ?_
    refine x_iconst (v := 2) ⟨by decide, by decide⟩ (dtk dt_X12_sheet 7 (11, .iconst 2, 1) rfl) ?_
    refine kc_X12_74 rfl (dtk dt_X12_sheet 8 (12, .invokestatic 74, 3) rfl) (c_X12_in (G := G)  ) rfl rfl (fitR (by decide) (by decide)) (Nat.le_of_ble_eq_true rfl) (pqK ?_)
    refine x_if_eqB (tgt := 33) (dtk dt_X12_sheet 9 (15, .ifCond .eq 18, 3) rfl) (by decide) (fun c15 => ?_) (fun c15 => ?_)
    · skip
      refine x_aload_n (dtk dt_X12_sheet 18 (33, .aload_n 0, 1) rfl) rfl ?_
      refine x_iconst (v := 1) ⟨by decide, by decide⟩ (dtk dt_X12_sheet 19 (34, .iconst 1, 1) rfl) ?_
      refine kc_X12_89 rfl (dtk dt_X12_sheet 20 (35, .invokevirtual 89, 3) rfl) (c_X12_refused (G := G)  hw) rfl rfl (wk_36 hw) (fitR (by decide) (by decide)) (Nat.le_of_ble_eq_true rfl) (pqK ?_)
      exact r_i (dtk dt_X12_sheet 21 (38, .ireturn, 1) rfl) rfl (by rw [if_neg (by simp_all <;> omega)]) (by rw [if_neg (by simp_all <;> omega)])
    · skip
      refine x_iload_n (dtk dt_X12_sheet 10 (18, .iload_n 2, 1) rfl) rfl ?_
      refine x_iconst (v := -1) ⟨by decide, by decide⟩ (dtk dt_X12_sheet 11 (19, .iconst (-1), 1) rfl) ?_
      refine x_icmp_eq (tgt := 39) (dtk dt_X12_sheet 12 (20, .if_icmp .eq 19, 3) rfl) (by decide) (fun c20 => ?_) (fun c20 => ?_)
      · skip
        refine MW.sub [0, 1, 2, 3] rfl ?_
        exact J39_2  (by simp_all <;> omega)
      · skip
        refine x_iload_n (dtk dt_X12_sheet 13 (23, .iload_n 3, 1) rfl) rfl ?_
        refine x_iconst (v := 0) ⟨by decide, by decide⟩ (dtk dt_X12_sheet 14 (24, .iconst 0, 1) rfl) ?_
        refine x_bipush (v := 20) ⟨by decide, by decide⟩ (dtk dt_X12_sheet 15 (25, .bipush 20, 2) rfl) ?_
        refine kc_X12_74 rfl (dtk dt_X12_sheet 16 (27, .invokestatic 74, 3) rfl) (c_X12_in (G := G)  ) rfl rfl (fitR (by decide) (by decide)) (Nat.le_of_ble_eq_true rfl) (pqK ?_)
        refine x_if_neB (tgt := 39) (dtk dt_X12_sheet 17 (30, .ifCond .ne 9, 3) rfl) (by decide) (fun c30 => ?_) (fun c30 => ?_)
        · skip
          refine MW.sub [0, 1, 2, 3] rfl ?_
          exact J39_2  (by simp_all <;> omega)
        · skip
          refine x_aload_n (dtk dt_X12_sheet 18 (33, .aload_n 0, 1) rfl) rfl ?_
          refine x_iconst (v := 1) ⟨by decide, by decide⟩ (dtk dt_X12_sheet 19 (34, .iconst 1, 1) rfl) ?_
          refine kc_X12_89 rfl (dtk dt_X12_sheet 20 (35, .invokevirtual 89, 3) rfl) (c_X12_refused (G := G)  hw) rfl rfl (wk_36 hw) (fitR (by decide) (by decide)) (Nat.le_of_ble_eq_true rfl) (pqK ?_)
          exact r_i (dtk dt_X12_sheet 21 (38, .ireturn, 1) rfl) rfl (by rw [if_neg (by simp_all <;> omega)]) (by rw [if_neg (by simp_all <;> omega)])
set_option maxRecDepth 100000 in
set_option maxHeartbeats 4000000 in
theorem c_X12_cell {G : GG} {n : Nat} {K : KK} {M : MM} {s i v : Int} (hw : WF K M) (hv : SV M) : MC G mi_X12_cell 2 0 0 [(1, 36), (0, s), (0, i), (0, v)] n K M (PQ (some (0, if (decide (0 ≤ s) && decide (s ≤ 3)) && (decide (0 ≤ v) && decide (v ≤ 100)) then (if M 42 s = -1 then -1 else if 0 ≤ i ∧ i < M 43 s then 1 else -1) else -1)) n K (if (decide (0 ≤ s) && decide (s ≤ 3)) && (decide (0 ≤ v) && decide (v ≤ 100)) then (if M 42 s = -1 then st2 M 36 12 10 else if 0 ≤ i ∧ i < M 43 s then st2 (st2 M 44 (20 * s + i) v) 36 12 0 else st2 M 36 12 12) else st2 M 36 12 1)) := by
  refine MC.intro (lc := [(0, (1, 36)), (1, (0, s)), (2, (0, i)), (3, (0, v))]) (by decide) rfl (by simp [Nat.ble]) (Nat.le_of_ble_eq_true rfl) rfl (fun hMR => ?_)
  refine x_iload_n (dtk dt_X12_cell 0 (0, .iload_n 1, 1) rfl) rfl ?_
  refine x_iconst (v := 0) ⟨by decide, by decide⟩ (dtk dt_X12_cell 1 (1, .iconst 0, 1) rfl) ?_
  refine x_iconst (v := 3) ⟨by decide, by decide⟩ (dtk dt_X12_cell 2 (2, .iconst 3, 1) rfl) ?_
  refine kc_X12_74 rfl (dtk dt_X12_cell 3 (3, .invokestatic 74, 3) rfl) (c_X12_in (G := G)  ) rfl rfl (fitR (by decide) (by decide)) (Nat.le_of_ble_eq_true rfl) (pqK ?_)
  refine x_if_eqB (tgt := 19) (dtk dt_X12_cell 4 (6, .ifCond .eq 13, 3) rfl) (by decide) (fun c6 => ?_) (fun c6 => ?_)
  · skip
    refine x_aload_n (dtk dt_X12_cell 10 (19, .aload_n 0, 1) rfl) rfl ?_
    refine x_iconst (v := 1) ⟨by decide, by decide⟩ (dtk dt_X12_cell 11 (20, .iconst 1, 1) rfl) ?_
    refine kc_X12_89 rfl (dtk dt_X12_cell 12 (21, .invokevirtual 89, 3) rfl) (c_X12_refused (G := G)  hw) rfl rfl (wk_36 hw) (fitR (by decide) (by decide)) (Nat.le_of_ble_eq_true rfl) (pqK ?_)
    exact r_i (dtk dt_X12_cell 13 (24, .ireturn, 1) rfl) rfl (by rw [if_neg (by simp_all <;> omega)]) (by rw [if_neg (by simp_all <;> omega)])
  · skip
    refine x_iload_n (dtk dt_X12_cell 5 (9, .iload_n 3, 1) rfl) rfl ?_
    refine x_iconst (v := 0) ⟨by decide, by decide⟩ (dtk dt_X12_cell 6 (10, .iconst 0, 1) rfl) ?_
    refine x_bipush (v := 100) ⟨by decide, by decide⟩ (dtk dt_X12_cell 7 (11, .bipush 100, 2) rfl) ?_
    refine kc_X12_74 rfl (dtk dt_X12_cell 8 (13, .invokestatic 74, 3) rfl) (c_X12_in (G := G)  ) rfl rfl (fitR (by decide) (by decide)) (Nat.le_of_ble_eq_true rfl) (pqK ?_)
    refine x_if_neB (tgt := 25) (dtk dt_X12_cell 9 (16, .ifCond .ne 9, 3) rfl) (by decide) (fun c16 => ?_) (fun c16 => ?_)
    · skip
      have hs : 0 ≤ s ∧ s ≤ 3 := by (simp at c6; omega)
      have hz := hv s (by omega) (by omega)
      have hok : ((decide (0 ≤ s) && decide (s ≤ 3)) && (decide (0 ≤ v) && decide (v ≤ 100))) = true := by (rw [c6, c16]; rfl)
      refine x_aload_n (dtk dt_X12_cell 14 (25, .aload_n 0, 1) rfl) rfl ?_
      refine fg_X12_29 rfl (dtk dt_X12_cell 15 (26, .getfield 29, 3) rfl) (wk_36 hw) (wm_36_9 hw) ?_
      refine x_iload_n (dtk dt_X12_cell 16 (29, .iload_n 1, 1) rfl) rfl ?_
      refine x_iald (dtk dt_X12_cell 17 (30, .iaload, 1) rfl) (wk_42 hw) ⟨by omega, by omega⟩ ?_
      refine x_iconst (v := -1) ⟨by decide, by decide⟩ (dtk dt_X12_cell 18 (31, .iconst (-1), 1) rfl) ?_
      refine x_icmp_ne (tgt := 42) (dtk dt_X12_cell 19 (32, .if_icmp .ne 10, 3) rfl) (by decide) (fun c32 => ?_) (fun c32 => ?_)
      · skip
        refine x_iload_n (dtk dt_X12_cell 24 (42, .iload_n 2, 1) rfl) rfl ?_
        refine x_iconst (v := 0) ⟨by decide, by decide⟩ (dtk dt_X12_cell 25 (43, .iconst 0, 1) rfl) ?_
        refine x_aload_n (dtk dt_X12_cell 26 (44, .aload_n 0, 1) rfl) rfl ?_
        refine fg_X12_32 rfl (dtk dt_X12_cell 27 (45, .getfield 32, 3) rfl) (wk_36 hw) (wm_36_10 hw) ?_
        refine x_iload_n (dtk dt_X12_cell 28 (48, .iload_n 1, 1) rfl) rfl ?_
        refine x_iald (dtk dt_X12_cell 29 (49, .iaload, 1) rfl) (wk_43 hw) ⟨by omega, by omega⟩ ?_
        refine x_iconst (v := 1) ⟨by decide, by decide⟩ (dtk dt_X12_cell 30 (50, .iconst 1, 1) rfl) ?_
        refine y_isub (dtk dt_X12_cell 31 (51, .isub, 1) rfl) ⟨by omega, by omega⟩ ?_
        refine kc_X12_74 rfl (dtk dt_X12_cell 32 (52, .invokestatic 74, 3) rfl) (c_X12_in (G := G)  ) rfl rfl (fitR (by decide) (by decide)) (Nat.le_of_ble_eq_true rfl) (pqK ?_)
        refine x_if_neB (tgt := 65) (dtk dt_X12_cell 33 (55, .ifCond .ne 10, 3) rfl) (by decide) (fun c55 => ?_) (fun c55 => ?_)
        · skip
          have hin : 0 ≤ i ∧ i < M 43 s := by (simp at c55; omega)
          refine x_aload_n (dtk dt_X12_cell 38 (65, .aload_n 0, 1) rfl) rfl ?_
          refine fg_X12_35 rfl (dtk dt_X12_cell 39 (66, .getfield 35, 3) rfl) (wk_36 hw) (wm_36_11 hw) ?_
          refine x_bipush (v := 20) ⟨by decide, by decide⟩ (dtk dt_X12_cell 40 (69, .bipush 20, 2) rfl) ?_
          refine x_iload_n (dtk dt_X12_cell 41 (71, .iload_n 1, 1) rfl) rfl ?_
          refine y_imul (dtk dt_X12_cell 42 (72, .imul, 1) rfl) ⟨by omega, by omega⟩ ?_
          refine x_iload_n (dtk dt_X12_cell 43 (73, .iload_n 2, 1) rfl) rfl ?_
          refine y_iadd (dtk dt_X12_cell 44 (74, .iadd, 1) rfl) ⟨by omega, by omega⟩ ?_
          refine x_iload_n (dtk dt_X12_cell 45 (75, .iload_n 3, 1) rfl) rfl ?_
          refine x_iast (dtk dt_X12_cell 46 (76, .iastore, 1) rfl) (wk_44 hw) ⟨by omega, by omega⟩ ?_
          refine x_aload_n (dtk dt_X12_cell 47 (77, .aload_n 0, 1) rfl) rfl ?_
          refine x_iconst (v := 1) ⟨by decide, by decide⟩ (dtk dt_X12_cell 48 (78, .iconst 1, 1) rfl) ?_
          refine kc_X12_97 rfl (dtk dt_X12_cell 49 (79, .invokevirtual 97, 3) rfl) (c_X12_done (G := G)  (WF.arr 44 rfl hw)) rfl rfl (wk_36 hw) (fitR (by decide) (by decide)) (Nat.le_of_ble_eq_true rfl) (pqK ?_)
          exact r_i (dtk dt_X12_cell 50 (82, .ireturn, 1) rfl) rfl (by rw [if_pos hok, if_neg (by omega), if_pos hin]) (by rw [if_pos hok, if_neg (by omega), if_pos hin])
        · skip
          have hin : ¬ (0 ≤ i ∧ i < M 43 s) := by (simp at c55; omega)
          refine x_aload_n (dtk dt_X12_cell 34 (58, .aload_n 0, 1) rfl) rfl ?_
          refine x_bipush (v := 12) ⟨by decide, by decide⟩ (dtk dt_X12_cell 35 (59, .bipush 12, 2) rfl) ?_
          refine kc_X12_89 rfl (dtk dt_X12_cell 36 (61, .invokevirtual 89, 3) rfl) (c_X12_refused (G := G)  hw) rfl rfl (wk_36 hw) (fitR (by decide) (by decide)) (Nat.le_of_ble_eq_true rfl) (pqK ?_)
          exact r_i (dtk dt_X12_cell 37 (64, .ireturn, 1) rfl) rfl (by rw [if_pos hok, if_neg (by omega), if_neg hin]) (by rw [if_pos hok, if_neg (by omega), if_neg hin])
      · skip
        refine x_aload_n (dtk dt_X12_cell 20 (35, .aload_n 0, 1) rfl) rfl ?_
        refine x_bipush (v := 10) ⟨by decide, by decide⟩ (dtk dt_X12_cell 21 (36, .bipush 10, 2) rfl) ?_
        refine kc_X12_89 rfl (dtk dt_X12_cell 22 (38, .invokevirtual 89, 3) rfl) (c_X12_refused (G := G)  hw) rfl rfl (wk_36 hw) (fitR (by decide) (by decide)) (Nat.le_of_ble_eq_true rfl) (pqK ?_)
        exact r_i (dtk dt_X12_cell 23 (41, .ireturn, 1) rfl) rfl (by rw [if_pos hok, if_pos (by omega)]) (by rw [if_pos hok, if_pos (by omega)])
    · skip
      refine x_aload_n (dtk dt_X12_cell 10 (19, .aload_n 0, 1) rfl) rfl ?_
      refine x_iconst (v := 1) ⟨by decide, by decide⟩ (dtk dt_X12_cell 11 (20, .iconst 1, 1) rfl) ?_
      refine kc_X12_89 rfl (dtk dt_X12_cell 12 (21, .invokevirtual 89, 3) rfl) (c_X12_refused (G := G)  hw) rfl rfl (wk_36 hw) (fitR (by decide) (by decide)) (Nat.le_of_ble_eq_true rfl) (pqK ?_)
      exact r_i (dtk dt_X12_cell 13 (24, .ireturn, 1) rfl) rfl (by rw [if_neg (by simp_all <;> omega)]) (by rw [if_neg (by simp_all <;> omega)])
set_option maxRecDepth 100000 in
set_option maxHeartbeats 4000000 in
theorem c_X12_goes {G : GG} {n : Nat} {K : KK} {M : MM} {o a b : Int} (hm : MO K M) : MC G mi_X12_goes 4 0 0 [(1, 36), (0, o), (0, a), (0, b)] n K M (PQ (some (0, B (goB M o a b))) n K (if goB M o a b then tlM M o a b else M)) := by
  refine MC.intro (lc := [(0, (1, 36)), (1, (0, o)), (2, (0, a)), (3, (0, b))]) (by decide) rfl (by simp [Nat.ble]) (Nat.le_of_ble_eq_true rfl) rfl (fun hMR => ?_)
  refine x_aload_n (dtk dt_X12_goes 0 (0, .aload_n 0, 1) rfl) rfl ?_
  refine x_iload_n (dtk dt_X12_goes 1 (1, .iload_n 1, 1) rfl) rfl ?_
  refine x_iload_n (dtk dt_X12_goes 2 (2, .iload_n 2, 1) rfl) rfl ?_
  refine kc_X12_110 rfl (dtk dt_X12_goes 3 (3, .invokevirtual 110, 3) rfl) (c_X12_isThing (G := G)  hm) rfl rfl (wk_36 hm.1) (fitR (by decide) (by decide)) (Nat.le_of_ble_eq_true rfl) (pqK ?_)
  refine x_if_eqB (tgt := 33) (dtk dt_X12_goes 4 (6, .ifCond .eq 27, 3) rfl) (by decide) (fun c6 => ?_) (fun c6 => ?_)
  · skip
    have hg : goB M o a b = false := by (unfold goB; simp_all)
    refine x_iconst (v := 0) ⟨by decide, by decide⟩ (dtk dt_X12_goes 19 (33, .iconst 0, 1) rfl) ?_
    exact r_b (b := false) (dtk dt_X12_goes 20 (34, .ireturn, 1) rfl) rfl (by first | exact hg.symm | (unfold goB; simp_all)) (by first | rw [if_neg (by rw [hg]; decide)] | (rw [if_neg]; unfold goB; simp_all))
  · skip
    refine x_aload_n (dtk dt_X12_goes 5 (9, .aload_n 0, 1) rfl) rfl ?_
    refine x_iload_n (dtk dt_X12_goes 6 (10, .iload_n 1, 1) rfl) rfl ?_
    refine x_iload_n (dtk dt_X12_goes 7 (11, .iload_n 3, 1) rfl) rfl ?_
    refine kc_X12_110 rfl (dtk dt_X12_goes 8 (12, .invokevirtual 110, 3) rfl) (c_X12_isThing (G := G)  hm) rfl rfl (wk_36 hm.1) (fitR (by decide) (by decide)) (Nat.le_of_ble_eq_true rfl) (pqK ?_)
    refine x_if_eqB (tgt := 33) (dtk dt_X12_goes 9 (15, .ifCond .eq 18, 3) rfl) (by decide) (fun c15 => ?_) (fun c15 => ?_)
    · skip
      refine x_iconst (v := 0) ⟨by decide, by decide⟩ (dtk dt_X12_goes 19 (33, .iconst 0, 1) rfl) ?_
      exact r_b (b := false) (dtk dt_X12_goes 20 (34, .ireturn, 1) rfl) rfl (by first | exact hg.symm | (unfold goB; simp_all)) (by first | rw [if_neg (by rw [hg]; decide)] | (rw [if_neg]; unfold goB; simp_all))
    · skip
      have ht := isTh_of hm c6
      have ht2 := isTh_of hm c15
      have hA : AT K M o (M 38 o) (dM M o) := ⟨hm, ht.1, rfl, rfl⟩
      refine x_iload_n (dtk dt_X12_goes 10 (18, .iload_n 2, 1) rfl) rfl ?_
      refine x_iload_n (dtk dt_X12_goes 11 (19, .iload_n 3, 1) rfl) rfl ?_
      refine x_icmp_eq (tgt := 33) (dtk dt_X12_goes 12 (20, .if_icmp .eq 13, 3) rfl) (by decide) (fun c20 => ?_) (fun c20 => ?_)
      · skip
        have hg : goB M o a b = false := by (unfold goB; simp_all)
        refine x_iconst (v := 0) ⟨by decide, by decide⟩ (dtk dt_X12_goes 19 (33, .iconst 0, 1) rfl) ?_
        exact r_b (b := false) (dtk dt_X12_goes 20 (34, .ireturn, 1) rfl) rfl (by first | exact hg.symm | (unfold goB; simp_all)) (by first | rw [if_neg (by rw [hg]; decide)] | (rw [if_neg]; unfold goB; simp_all))
      · skip
        refine x_aload_n (dtk dt_X12_goes 13 (23, .aload_n 0, 1) rfl) rfl ?_
        refine x_iload_n (dtk dt_X12_goes 14 (24, .iload_n 1, 1) rfl) rfl ?_
        refine x_iload_n (dtk dt_X12_goes 15 (25, .iload_n 3, 1) rfl) rfl ?_
        refine x_iload_n (dtk dt_X12_goes 16 (26, .iload_n 2, 1) rfl) rfl ?_
        refine kc_X12_86 rfl (dtk dt_X12_goes 17 (27, .invokevirtual 86, 3) rfl) (c_X12_isBelow (G := G)  hA (by omega) (by omega)) rfl rfl (wk_36 hm.1) (fitR (by decide) (by decide)) (Nat.le_of_ble_eq_true rfl) (pqK ?_)
        refine x_if_eqB (tgt := 35) (dtk dt_X12_goes 18 (30, .ifCond .eq 5, 3) rfl) (by decide) (fun c30 => ?_) (fun c30 => ?_)
        · skip
          have hg : goB M o a b = true := by (unfold goB; simp_all)
          refine x_aload_n (dtk dt_X12_goes 21 (35, .aload_n 0, 1) rfl) rfl ?_
          refine x_iload_n (dtk dt_X12_goes 22 (36, .iload_n 1, 1) rfl) rfl ?_
          refine x_iload_n (dtk dt_X12_goes 23 (37, .iload_n 2, 1) rfl) rfl ?_
          refine x_iload_n (dtk dt_X12_goes 24 (38, .iload_n 3, 1) rfl) rfl ?_
          refine kc_X12_117 rfl (dtk dt_X12_goes 25 (39, .invokevirtual 117, 3) rfl) (c_X12_tell (G := G)  hm (by omega) (by omega) (by omega)) rfl rfl (wk_36 hm.1) (fitR (by decide) (by decide)) (Nat.le_of_ble_eq_true rfl) (pqK ?_)
          refine x_iconst (v := 1) ⟨by decide, by decide⟩ (dtk dt_X12_goes 26 (42, .iconst 1, 1) rfl) ?_
          exact r_b (b := true) (dtk dt_X12_goes 27 (43, .ireturn, 1) rfl) rfl hg.symm (by rw [if_pos hg])
        · skip
          have hg : goB M o a b = false := by (unfold goB; simp_all)
          refine x_iconst (v := 0) ⟨by decide, by decide⟩ (dtk dt_X12_goes 19 (33, .iconst 0, 1) rfl) ?_
          exact r_b (b := false) (dtk dt_X12_goes 20 (34, .ireturn, 1) rfl) rfl (by first | exact hg.symm | (unfold goB; simp_all)) (by first | rw [if_neg (by rw [hg]; decide)] | (rw [if_neg]; unfold goB; simp_all))
set_option maxRecDepth 100000 in
set_option maxHeartbeats 4000000 in
theorem c_X12_pairs {G : GG} {n : Nat} {K : KK} {M : MM} {o s so q : Int} (hm : MO K M) (hv : SV M) : MC G mi_X12_pairs 5 0 0 [(1, 36), (0, o), (0, s), (0, so), (0, q)] n K M (PQ (some (0, if (isOr M o && (decide (0 ≤ s) && decide (s ≤ 3)) && (decide (0 ≤ so) && decide (so ≤ 2)) && (decide (0 ≤ q) && decide (q ≤ 10))) then (if M 37 o ≠ 0 then -1 else if 0 < q ∧ M 42 s = -1 then -1 else if 0 < q ∧ M 42 s ≠ so then -1 else if 0 < q ∧ M 43 s < 2 * q then -1 else prK o s q.toNat 0 M) else -1)) n K (if (isOr M o && (decide (0 ≤ s) && decide (s ≤ 3)) && (decide (0 ≤ so) && decide (so ≤ 2)) && (decide (0 ≤ q) && decide (q ≤ 10))) then (if M 37 o ≠ 0 then st2 M 36 12 3 else if 0 < q ∧ M 42 s = -1 then st2 M 36 12 10 else if 0 < q ∧ M 42 s ≠ so then st2 M 36 12 11 else if 0 < q ∧ M 43 s < 2 * q then st2 M 36 12 12 else st2 (prM o s q.toNat 0 M) 36 12 0) else st2 M 36 12 1)) := by
  refine MC.intro (lc := [(0, (1, 36)), (1, (0, o)), (2, (0, s)), (3, (0, so)), (4, (0, q))]) (by decide) rfl (by simp [Nat.ble]) (Nat.le_of_ble_eq_true rfl) rfl (fun hMR => ?_)
  refine x_aload_n (dtk dt_X12_pairs 0 (0, .aload_n 0, 1) rfl) rfl ?_
  refine x_iload_n (dtk dt_X12_pairs 1 (1, .iload_n 1, 1) rfl) rfl ?_
  refine kc_X12_78 rfl (dtk dt_X12_pairs 2 (2, .invokevirtual 78, 3) rfl) (c_X12_isOrder (G := G)  hm) rfl rfl (wk_36 hm.1) (fitR (by decide) (by decide)) (Nat.le_of_ble_eq_true rfl) (pqK ?_)
  refine x_if_eqB (tgt := 37) (dtk dt_X12_pairs 3 (5, .ifCond .eq 32, 3) rfl) (by decide) (fun c5 => ?_) (fun c5 => ?_)
  · skip
    refine x_aload_n (dtk dt_X12_pairs 19 (37, .aload_n 0, 1) rfl) rfl ?_
    refine x_iconst (v := 1) ⟨by decide, by decide⟩ (dtk dt_X12_pairs 20 (38, .iconst 1, 1) rfl) ?_
    refine kc_X12_89 rfl (dtk dt_X12_pairs 21 (39, .invokevirtual 89, 3) rfl) (c_X12_refused (G := G)  hm.1) rfl rfl (wk_36 hm.1) (fitR (by decide) (by decide)) (Nat.le_of_ble_eq_true rfl) (pqK ?_)
    exact r_i (dtk dt_X12_pairs 22 (42, .ireturn, 1) rfl) rfl (by rw [if_neg (by simp_all <;> omega)]) (by rw [if_neg (by simp_all <;> omega)])
  · skip
    refine x_iload_n (dtk dt_X12_pairs 4 (8, .iload_n 2, 1) rfl) rfl ?_
    refine x_iconst (v := 0) ⟨by decide, by decide⟩ (dtk dt_X12_pairs 5 (9, .iconst 0, 1) rfl) ?_
    refine x_iconst (v := 3) ⟨by decide, by decide⟩ (dtk dt_X12_pairs 6 (10, .iconst 3, 1) rfl) ?_
    refine kc_X12_74 rfl (dtk dt_X12_pairs 7 (11, .invokestatic 74, 3) rfl) (c_X12_in (G := G)  ) rfl rfl (fitR (by decide) (by decide)) (Nat.le_of_ble_eq_true rfl) (pqK ?_)
    refine x_if_eqB (tgt := 37) (dtk dt_X12_pairs 8 (14, .ifCond .eq 23, 3) rfl) (by decide) (fun c14 => ?_) (fun c14 => ?_)
    · skip
      refine x_aload_n (dtk dt_X12_pairs 19 (37, .aload_n 0, 1) rfl) rfl ?_
      refine x_iconst (v := 1) ⟨by decide, by decide⟩ (dtk dt_X12_pairs 20 (38, .iconst 1, 1) rfl) ?_
      refine kc_X12_89 rfl (dtk dt_X12_pairs 21 (39, .invokevirtual 89, 3) rfl) (c_X12_refused (G := G)  hm.1) rfl rfl (wk_36 hm.1) (fitR (by decide) (by decide)) (Nat.le_of_ble_eq_true rfl) (pqK ?_)
      exact r_i (dtk dt_X12_pairs 22 (42, .ireturn, 1) rfl) rfl (by rw [if_neg (by simp_all <;> omega)]) (by rw [if_neg (by simp_all <;> omega)])
    · skip
      refine x_iload_n (dtk dt_X12_pairs 9 (17, .iload_n 3, 1) rfl) rfl ?_
      refine x_iconst (v := 0) ⟨by decide, by decide⟩ (dtk dt_X12_pairs 10 (18, .iconst 0, 1) rfl) ?_
      refine x_iconst (v := 2) ⟨by decide, by decide⟩ (dtk dt_X12_pairs 11 (19, .iconst 2, 1) rfl) ?_
      refine kc_X12_74 rfl (dtk dt_X12_pairs 12 (20, .invokestatic 74, 3) rfl) (c_X12_in (G := G)  ) rfl rfl (fitR (by decide) (by decide)) (Nat.le_of_ble_eq_true rfl) (pqK ?_)
      refine x_if_eqB (tgt := 37) (dtk dt_X12_pairs 13 (23, .ifCond .eq 14, 3) rfl) (by decide) (fun c23 => ?_) (fun c23 => ?_)
      · skip
        refine x_aload_n (dtk dt_X12_pairs 19 (37, .aload_n 0, 1) rfl) rfl ?_
        refine x_iconst (v := 1) ⟨by decide, by decide⟩ (dtk dt_X12_pairs 20 (38, .iconst 1, 1) rfl) ?_
        refine kc_X12_89 rfl (dtk dt_X12_pairs 21 (39, .invokevirtual 89, 3) rfl) (c_X12_refused (G := G)  hm.1) rfl rfl (wk_36 hm.1) (fitR (by decide) (by decide)) (Nat.le_of_ble_eq_true rfl) (pqK ?_)
        exact r_i (dtk dt_X12_pairs 22 (42, .ireturn, 1) rfl) rfl (by rw [if_neg (by simp_all <;> omega)]) (by rw [if_neg (by simp_all <;> omega)])
      · skip
        refine x_iload (dtk dt_X12_pairs 14 (26, .iload 4, 2) rfl) rfl ?_
        refine x_iconst (v := 0) ⟨by decide, by decide⟩ (dtk dt_X12_pairs 15 (28, .iconst 0, 1) rfl) ?_
        refine x_bipush (v := 10) ⟨by decide, by decide⟩ (dtk dt_X12_pairs 16 (29, .bipush 10, 2) rfl) ?_
        refine kc_X12_74 rfl (dtk dt_X12_pairs 17 (31, .invokestatic 74, 3) rfl) (c_X12_in (G := G)  ) rfl rfl (fitR (by decide) (by decide)) (Nat.le_of_ble_eq_true rfl) (pqK ?_)
        refine x_if_neB (tgt := 43) (dtk dt_X12_pairs 18 (34, .ifCond .ne 9, 3) rfl) (by decide) (fun c34 => ?_) (fun c34 => ?_)
        · skip
          have hok : (isOr M o && (decide (0 ≤ s) && decide (s ≤ 3)) && (decide (0 ≤ so) && decide (so ≤ 2)) && (decide (0 ≤ q) && decide (q ≤ 10))) = true := by (rw [c5, c14, c23, c34]; rfl)
          have ho := isOr_of hm c5
          have hs : 0 ≤ s ∧ s ≤ 3 := by (simp at c14; omega)
          have hq : 0 ≤ q ∧ q ≤ 10 := by (simp at c34; omega)
          have hz := hv s (by omega) (by omega)
          refine x_aload_n (dtk dt_X12_pairs 23 (43, .aload_n 0, 1) rfl) rfl ?_
          refine fg_X12_7 rfl (dtk dt_X12_pairs 24 (44, .getfield 7, 3) rfl) (wk_36 hm.1) (wm_36_1 hm.1) ?_
          refine x_iload_n (dtk dt_X12_pairs 25 (47, .iload_n 1, 1) rfl) rfl ?_
          refine x_iald (dtk dt_X12_pairs 26 (48, .iaload, 1) rfl) (wk_37 hm.1) ⟨by omega, by omega⟩ ?_
          refine x_if_eq (tgt := 58) (dtk dt_X12_pairs 27 (49, .ifCond .eq 9, 3) rfl) (by decide) (fun c49 => ?_) (fun c49 => ?_)
          · skip
            have hk0 : ¬ (M 37 o ≠ 0) := by omega
            have J80_12 : (¬ (0 < q ∧ M 42 s = -1)) → MW G mi_X12_pairs (rmd 5 0 0) (MZ G (PQ (some (0, if (isOr M o && (decide (0 ≤ s) && decide (s ≤ 3)) && (decide (0 ≤ so) && decide (so ≤ 2)) && (decide (0 ≤ q) && decide (q ≤ 10))) then (if M 37 o ≠ 0 then -1 else if 0 < q ∧ M 42 s = -1 then -1 else if 0 < q ∧ M 42 s ≠ so then -1 else if 0 < q ∧ M 43 s < 2 * q then -1 else prK o s q.toNat 0 M) else -1)) n K (if (isOr M o && (decide (0 ≤ s) && decide (s ≤ 3)) && (decide (0 ≤ so) && decide (so ≤ 2)) && (decide (0 ≤ q) && decide (q ≤ 10))) then (if M 37 o ≠ 0 then st2 M 36 12 3 else if 0 < q ∧ M 42 s = -1 then st2 M 36 12 10 else if 0 < q ∧ M 42 s ≠ so then st2 M 36 12 11 else if 0 < q ∧ M 43 s < 2 * q then st2 M 36 12 12 else st2 (prM o s q.toNat 0 M) 36 12 0) else st2 M 36 12 1)) 0 0) (0, 0) 80 [(0, (1, 36)), (1, (0, o)), (2, (0, s)), (3, (0, so)), (4, (0, q))] [] n K (M) := by
              intro  hj1
              have J102_14 : (¬ (0 < q ∧ M 42 s ≠ so)) → MW G mi_X12_pairs (rmd 5 0 0) (MZ G (PQ (some (0, if (isOr M o && (decide (0 ≤ s) && decide (s ≤ 3)) && (decide (0 ≤ so) && decide (so ≤ 2)) && (decide (0 ≤ q) && decide (q ≤ 10))) then (if M 37 o ≠ 0 then -1 else if 0 < q ∧ M 42 s = -1 then -1 else if 0 < q ∧ M 42 s ≠ so then -1 else if 0 < q ∧ M 43 s < 2 * q then -1 else prK o s q.toNat 0 M) else -1)) n K (if (isOr M o && (decide (0 ≤ s) && decide (s ≤ 3)) && (decide (0 ≤ so) && decide (so ≤ 2)) && (decide (0 ≤ q) && decide (q ≤ 10))) then (if M 37 o ≠ 0 then st2 M 36 12 3 else if 0 < q ∧ M 42 s = -1 then st2 M 36 12 10 else if 0 < q ∧ M 42 s ≠ so then st2 M 36 12 11 else if 0 < q ∧ M 43 s < 2 * q then st2 M 36 12 12 else st2 (prM o s q.toNat 0 M) 36 12 0) else st2 M 36 12 1)) 0 0) (0, 0) 102 [(0, (1, 36)), (1, (0, o)), (2, (0, s)), (3, (0, so)), (4, (0, q))] [] n K (M) := by
                intro  hj2
                have J127_16 : (¬ (0 < q ∧ M 43 s < 2 * q)) → MW G mi_X12_pairs (rmd 5 0 0) (MZ G (PQ (some (0, if (isOr M o && (decide (0 ≤ s) && decide (s ≤ 3)) && (decide (0 ≤ so) && decide (so ≤ 2)) && (decide (0 ≤ q) && decide (q ≤ 10))) then (if M 37 o ≠ 0 then -1 else if 0 < q ∧ M 42 s = -1 then -1 else if 0 < q ∧ M 42 s ≠ so then -1 else if 0 < q ∧ M 43 s < 2 * q then -1 else prK o s q.toNat 0 M) else -1)) n K (if (isOr M o && (decide (0 ≤ s) && decide (s ≤ 3)) && (decide (0 ≤ so) && decide (so ≤ 2)) && (decide (0 ≤ q) && decide (q ≤ 10))) then (if M 37 o ≠ 0 then st2 M 36 12 3 else if 0 < q ∧ M 42 s = -1 then st2 M 36 12 10 else if 0 < q ∧ M 42 s ≠ so then st2 M 36 12 11 else if 0 < q ∧ M 43 s < 2 * q then st2 M 36 12 12 else st2 (prM o s q.toNat 0 M) 36 12 0) else st2 M 36 12 1)) 0 0) (0, 0) 127 [(0, (1, 36)), (1, (0, o)), (2, (0, s)), (3, (0, so)), (4, (0, q))] [] n K (M) := by
                  intro  hj3
                  refine x_iconst (v := 0) ⟨by decide, by decide⟩ (dtk dt_X12_pairs 70 (127, .iconst 0, 1) rfl) ?_
                  refine x_istore (dtk dt_X12_pairs 71 (128, .istore 5, 2) rfl) (by decide) ?_
                  have L130 : ∀ (fu : Nat) (v5 : Int) (M1 : MM), (0 ≤ v5 ∧ v5 ≤ q) → (MO K M1) → (∀ j, M1 44 j = M 44 j) → (prK o s (q - v5).toNat v5 M1 = prK o s q.toNat 0 M) → (prM o s (q - v5).toNat v5 M1 = prM o s q.toNat 0 M) → (q - v5).toNat = fu → MW G mi_X12_pairs (rmd 5 0 0) (MZ G (PQ (some (0, if (isOr M o && (decide (0 ≤ s) && decide (s ≤ 3)) && (decide (0 ≤ so) && decide (so ≤ 2)) && (decide (0 ≤ q) && decide (q ≤ 10))) then (if M 37 o ≠ 0 then -1 else if 0 < q ∧ M 42 s = -1 then -1 else if 0 < q ∧ M 42 s ≠ so then -1 else if 0 < q ∧ M 43 s < 2 * q then -1 else prK o s q.toNat 0 M) else -1)) n K (if (isOr M o && (decide (0 ≤ s) && decide (s ≤ 3)) && (decide (0 ≤ so) && decide (so ≤ 2)) && (decide (0 ≤ q) && decide (q ≤ 10))) then (if M 37 o ≠ 0 then st2 M 36 12 3 else if 0 < q ∧ M 42 s = -1 then st2 M 36 12 10 else if 0 < q ∧ M 42 s ≠ so then st2 M 36 12 11 else if 0 < q ∧ M 43 s < 2 * q then st2 M 36 12 12 else st2 (prM o s q.toNat 0 M) 36 12 0) else st2 M 36 12 1)) 0 0) (0, 0) 130 [(0, (1, 36)), (1, (0, o)), (2, (0, s)), (3, (0, so)), (4, (0, q)), (5, (0, v5))] [] n K (M1) := by
                    intro fu
                    induction fu using Nat.strongRecOn with
                    | ind fu ih130 =>
                      intro v5 M1 h1 hm1 e44 e1 e2 hk130
                      refine x_iload (dtk dt_X12_pairs 72 (130, .iload 5, 2) rfl) rfl ?_
                      refine x_iload (dtk dt_X12_pairs 73 (132, .iload 4, 2) rfl) rfl ?_
                      refine x_icmp_ge (tgt := 181) (dtk dt_X12_pairs 74 (134, .if_icmp .ge 47, 3) rfl) (by decide) (fun c134 => ?_) (fun c134 => ?_)
                      · skip
                        refine x_aload_n (dtk dt_X12_pairs 103 (181, .aload_n 0, 1) rfl) rfl ?_
                        refine x_iload (dtk dt_X12_pairs 104 (182, .iload 5, 2) rfl) rfl ?_
                        refine kc_X12_97 rfl (dtk dt_X12_pairs 105 (184, .invokevirtual 97, 3) rfl) (c_X12_done (G := G)  (by first | exact hm2.1 | (rw [if_neg (by rw [c172]; decide)]; exact hm1.1) | exact hm1.1)) rfl rfl (wk_36 hm.1) (fitR (by decide) (by decide)) (Nat.le_of_ble_eq_true rfl) (pqK ?_)
                        exact r_i (dtk dt_X12_pairs 106 (187, .ireturn, 1) rfl) rfl (by rw [if_pos hok, if_neg hk0, if_neg hj1, if_neg hj2, if_neg hj3]; first | (rw [show (q - v5).toNat = 0 by omega] at e1; exact e1) | (rw [show (q - v5).toNat = (q - (v5 + 1)).toNat + 1 by omega] at e1; rw [prK_s, e44, e44, if_neg (by rw [c172]; decide)] at e1; exact e1)) (by rw [if_pos hok, if_neg hk0, if_neg hj1, if_neg hj2, if_neg hj3]; congr 1; first | (rw [show (q - v5).toNat = 0 by omega] at e2; exact e2) | (rw [if_neg (by rw [c172]; decide)]; rw [show (q - v5).toNat = (q - (v5 + 1)).toNat + 1 by omega] at e2; rw [prM_s, e44, e44, if_neg (by rw [c172]; decide)] at e2; exact e2))
                      · skip
                        refine x_aload_n (dtk dt_X12_pairs 75 (137, .aload_n 0, 1) rfl) rfl ?_
                        refine x_iload_n (dtk dt_X12_pairs 76 (138, .iload_n 1, 1) rfl) rfl ?_
                        refine x_aload_n (dtk dt_X12_pairs 77 (139, .aload_n 0, 1) rfl) rfl ?_
                        refine fg_X12_35 rfl (dtk dt_X12_pairs 78 (140, .getfield 35, 3) rfl) (wk_36 hm.1) (wm_36_11 hm1.1) ?_
                        refine x_bipush (v := 20) ⟨by decide, by decide⟩ (dtk dt_X12_pairs 79 (143, .bipush 20, 2) rfl) ?_
                        refine x_iload_n (dtk dt_X12_pairs 80 (145, .iload_n 2, 1) rfl) rfl ?_
                        refine y_imul (dtk dt_X12_pairs 81 (146, .imul, 1) rfl) ⟨by omega, by omega⟩ ?_
                        refine x_iconst (v := 2) ⟨by decide, by decide⟩ (dtk dt_X12_pairs 82 (147, .iconst 2, 1) rfl) ?_
                        refine x_iload (dtk dt_X12_pairs 83 (148, .iload 5, 2) rfl) rfl ?_
                        refine y_imul (dtk dt_X12_pairs 84 (150, .imul, 1) rfl) ⟨by omega, by omega⟩ ?_
                        refine y_iadd (dtk dt_X12_pairs 85 (151, .iadd, 1) rfl) ⟨by omega, by omega⟩ ?_
                        refine x_iald (dtk dt_X12_pairs 86 (152, .iaload, 1) rfl) (wk_44 hm.1) ⟨by omega, by omega⟩ ?_
                        rw [e44]
                        refine x_aload_n (dtk dt_X12_pairs 87 (153, .aload_n 0, 1) rfl) rfl ?_
                        refine fg_X12_35 rfl (dtk dt_X12_pairs 88 (154, .getfield 35, 3) rfl) (wk_36 hm.1) (wm_36_11 hm1.1) ?_
                        refine x_bipush (v := 20) ⟨by decide, by decide⟩ (dtk dt_X12_pairs 89 (157, .bipush 20, 2) rfl) ?_
                        refine x_iload_n (dtk dt_X12_pairs 90 (159, .iload_n 2, 1) rfl) rfl ?_
                        refine y_imul (dtk dt_X12_pairs 91 (160, .imul, 1) rfl) ⟨by omega, by omega⟩ ?_
                        refine x_iconst (v := 2) ⟨by decide, by decide⟩ (dtk dt_X12_pairs 92 (161, .iconst 2, 1) rfl) ?_
                        refine x_iload (dtk dt_X12_pairs 93 (162, .iload 5, 2) rfl) rfl ?_
                        refine y_imul (dtk dt_X12_pairs 94 (164, .imul, 1) rfl) ⟨by omega, by omega⟩ ?_
                        refine y_iadd (dtk dt_X12_pairs 95 (165, .iadd, 1) rfl) ⟨by omega, by omega⟩ ?_
                        refine x_iconst (v := 1) ⟨by decide, by decide⟩ (dtk dt_X12_pairs 96 (166, .iconst 1, 1) rfl) ?_
                        refine y_iadd (dtk dt_X12_pairs 97 (167, .iadd, 1) rfl) ⟨by omega, by omega⟩ ?_
                        refine x_iald (dtk dt_X12_pairs 98 (168, .iaload, 1) rfl) (wk_44 hm.1) ⟨by omega, by omega⟩ ?_
                        rw [e44]
                        refine kc_X12_287 rfl (dtk dt_X12_pairs 99 (169, .invokevirtual 287, 3) rfl) (c_X12_goes (G := G)  hm1) rfl rfl (wk_36 hm.1) (fitR (by decide) (by decide)) (Nat.le_of_ble_eq_true rfl) (pqK ?_)
                        refine x_if_eqB (tgt := 181) (dtk dt_X12_pairs 100 (172, .ifCond .eq 9, 3) rfl) (by decide) (fun c172 => ?_) (fun c172 => ?_)
                        · skip
                          refine x_aload_n (dtk dt_X12_pairs 103 (181, .aload_n 0, 1) rfl) rfl ?_
                          refine x_iload (dtk dt_X12_pairs 104 (182, .iload 5, 2) rfl) rfl ?_
                          refine kc_X12_97 rfl (dtk dt_X12_pairs 105 (184, .invokevirtual 97, 3) rfl) (c_X12_done (G := G)  (by first | exact hm2.1 | (rw [if_neg (by rw [c172]; decide)]; exact hm1.1) | exact hm1.1)) rfl rfl (wk_36 hm.1) (fitR (by decide) (by decide)) (Nat.le_of_ble_eq_true rfl) (pqK ?_)
                          exact r_i (dtk dt_X12_pairs 106 (187, .ireturn, 1) rfl) rfl (by rw [if_pos hok, if_neg hk0, if_neg hj1, if_neg hj2, if_neg hj3]; first | (rw [show (q - v5).toNat = 0 by omega] at e1; exact e1) | (rw [show (q - v5).toNat = (q - (v5 + 1)).toNat + 1 by omega] at e1; rw [prK_s, e44, e44, if_neg (by rw [c172]; decide)] at e1; exact e1)) (by rw [if_pos hok, if_neg hk0, if_neg hj1, if_neg hj2, if_neg hj3]; congr 1; first | (rw [show (q - v5).toNat = 0 by omega] at e2; exact e2) | (rw [if_neg (by rw [c172]; decide)]; rw [show (q - v5).toNat = (q - (v5 + 1)).toNat + 1 by omega] at e2; rw [prM_s, e44, e44, if_neg (by rw [c172]; decide)] at e2; exact e2))
                        · skip
                          refine y_iinc (dtk dt_X12_pairs 101 (175, .iinc 5 1, 3) rfl) rfl (by decide) ⟨by omega, by omega⟩ ?_
                          refine x_goto (tgt := 130) (dtk dt_X12_pairs 102 (178, .goto (-48), 3) rfl) (by decide) ?_
                          refine MW.sub [1, 2, 3, 4, 5, 0] rfl ?_
                          exact ih130 _ (by omega) _ _ (by omega) (by rw [if_pos c172]; exact hm1.tl (goB_of hm1 c172).1 (goB_of hm1 c172).2.1) (fun j => by rw [if_pos c172, tlM_x (by decide)]; exact e44 j) (by rw [if_pos c172]; rw [show (q - v5).toNat = (q - (v5 + 1)).toNat + 1 by omega] at e1; rw [prK_s, e44, e44, if_pos c172] at e1; exact e1) (by rw [if_pos c172]; rw [show (q - v5).toNat = (q - (v5 + 1)).toNat + 1 by omega] at e2; rw [prM_s, e44, e44, if_pos c172] at e2; exact e2) rfl
                  refine MW.sub [1, 2, 3, 4, 5, 0] rfl ?_
                  exact L130 _ _ _ (by omega) hm (fun _ => rfl) (by simp) (by simp) rfl
                refine x_iload (dtk dt_X12_pairs 56 (102, .iload 4, 2) rfl) rfl ?_
                refine x_if_le (tgt := 127) (dtk dt_X12_pairs 57 (104, .ifCond .le 23, 3) rfl) (by decide) (fun c104 => ?_) (fun c104 => ?_)
                · skip
                  refine MW.sub [0, 1, 2, 3, 4] rfl ?_
                  exact J127_16  (by omega)
                · skip
                  refine x_iconst (v := 2) ⟨by decide, by decide⟩ (dtk dt_X12_pairs 58 (107, .iconst 2, 1) rfl) ?_
                  refine x_iload (dtk dt_X12_pairs 59 (108, .iload 4, 2) rfl) rfl ?_
                  refine y_imul (dtk dt_X12_pairs 60 (110, .imul, 1) rfl) ⟨by omega, by omega⟩ ?_
                  refine x_aload_n (dtk dt_X12_pairs 61 (111, .aload_n 0, 1) rfl) rfl ?_
                  refine fg_X12_32 rfl (dtk dt_X12_pairs 62 (112, .getfield 32, 3) rfl) (wk_36 hm.1) (wm_36_10 hm.1) ?_
                  refine x_iload_n (dtk dt_X12_pairs 63 (115, .iload_n 2, 1) rfl) rfl ?_
                  refine x_iald (dtk dt_X12_pairs 64 (116, .iaload, 1) rfl) (wk_43 hm.1) ⟨by omega, by omega⟩ ?_
                  refine x_icmp_le (tgt := 127) (dtk dt_X12_pairs 65 (117, .if_icmp .le 10, 3) rfl) (by decide) (fun c117 => ?_) (fun c117 => ?_)
                  · skip
                    refine MW.sub [0, 1, 2, 3, 4] rfl ?_
                    exact J127_16  (by omega)
                  · skip
                    refine x_aload_n (dtk dt_X12_pairs 66 (120, .aload_n 0, 1) rfl) rfl ?_
                    refine x_bipush (v := 12) ⟨by decide, by decide⟩ (dtk dt_X12_pairs 67 (121, .bipush 12, 2) rfl) ?_
                    refine kc_X12_89 rfl (dtk dt_X12_pairs 68 (123, .invokevirtual 89, 3) rfl) (c_X12_refused (G := G)  hm.1) rfl rfl (wk_36 hm.1) (fitR (by decide) (by decide)) (Nat.le_of_ble_eq_true rfl) (pqK ?_)
                    exact r_i (dtk dt_X12_pairs 69 (126, .ireturn, 1) rfl) rfl (by rw [if_pos hok, if_neg hk0, if_neg hj1, if_neg hj2, if_pos (by omega)]) (by rw [if_pos hok, if_neg hk0, if_neg hj1, if_neg hj2, if_pos (by omega)])
              refine x_iload (dtk dt_X12_pairs 44 (80, .iload 4, 2) rfl) rfl ?_
              refine x_if_le (tgt := 102) (dtk dt_X12_pairs 45 (82, .ifCond .le 20, 3) rfl) (by decide) (fun c82 => ?_) (fun c82 => ?_)
              · skip
                refine MW.sub [0, 1, 2, 3, 4] rfl ?_
                exact J102_14  (by omega)
              · skip
                refine x_aload_n (dtk dt_X12_pairs 46 (85, .aload_n 0, 1) rfl) rfl ?_
                refine fg_X12_29 rfl (dtk dt_X12_pairs 47 (86, .getfield 29, 3) rfl) (wk_36 hm.1) (wm_36_9 hm.1) ?_
                refine x_iload_n (dtk dt_X12_pairs 48 (89, .iload_n 2, 1) rfl) rfl ?_
                refine x_iald (dtk dt_X12_pairs 49 (90, .iaload, 1) rfl) (wk_42 hm.1) ⟨by omega, by omega⟩ ?_
                refine x_iload_n (dtk dt_X12_pairs 50 (91, .iload_n 3, 1) rfl) rfl ?_
                refine x_icmp_eq (tgt := 102) (dtk dt_X12_pairs 51 (92, .if_icmp .eq 10, 3) rfl) (by decide) (fun c92 => ?_) (fun c92 => ?_)
                · skip
                  refine MW.sub [0, 1, 2, 3, 4] rfl ?_
                  exact J102_14  (by omega)
                · skip
                  refine x_aload_n (dtk dt_X12_pairs 52 (95, .aload_n 0, 1) rfl) rfl ?_
                  refine x_bipush (v := 11) ⟨by decide, by decide⟩ (dtk dt_X12_pairs 53 (96, .bipush 11, 2) rfl) ?_
                  refine kc_X12_89 rfl (dtk dt_X12_pairs 54 (98, .invokevirtual 89, 3) rfl) (c_X12_refused (G := G)  hm.1) rfl rfl (wk_36 hm.1) (fitR (by decide) (by decide)) (Nat.le_of_ble_eq_true rfl) (pqK ?_)
                  exact r_i (dtk dt_X12_pairs 55 (101, .ireturn, 1) rfl) rfl (by rw [if_pos hok, if_neg hk0, if_neg hj1, if_pos (by omega)]) (by rw [if_pos hok, if_neg hk0, if_neg hj1, if_pos (by omega)])
            refine x_iload (dtk dt_X12_pairs 32 (58, .iload 4, 2) rfl) rfl ?_
            refine x_if_le (tgt := 80) (dtk dt_X12_pairs 33 (60, .ifCond .le 20, 3) rfl) (by decide) (fun c60 => ?_) (fun c60 => ?_)
            · skip
              refine MW.sub [0, 1, 2, 3, 4] rfl ?_
              exact J80_12  (by omega)
            · skip
              refine x_aload_n (dtk dt_X12_pairs 34 (63, .aload_n 0, 1) rfl) rfl ?_
              refine fg_X12_29 rfl (dtk dt_X12_pairs 35 (64, .getfield 29, 3) rfl) (wk_36 hm.1) (wm_36_9 hm.1) ?_
              refine x_iload_n (dtk dt_X12_pairs 36 (67, .iload_n 2, 1) rfl) rfl ?_
              refine x_iald (dtk dt_X12_pairs 37 (68, .iaload, 1) rfl) (wk_42 hm.1) ⟨by omega, by omega⟩ ?_
              refine x_iconst (v := -1) ⟨by decide, by decide⟩ (dtk dt_X12_pairs 38 (69, .iconst (-1), 1) rfl) ?_
              refine x_icmp_ne (tgt := 80) (dtk dt_X12_pairs 39 (70, .if_icmp .ne 10, 3) rfl) (by decide) (fun c70 => ?_) (fun c70 => ?_)
              · skip
                refine MW.sub [0, 1, 2, 3, 4] rfl ?_
                exact J80_12  (by omega)
              · skip
                refine x_aload_n (dtk dt_X12_pairs 40 (73, .aload_n 0, 1) rfl) rfl ?_
                refine x_bipush (v := 10) ⟨by decide, by decide⟩ (dtk dt_X12_pairs 41 (74, .bipush 10, 2) rfl) ?_
                refine kc_X12_89 rfl (dtk dt_X12_pairs 42 (76, .invokevirtual 89, 3) rfl) (c_X12_refused (G := G)  hm.1) rfl rfl (wk_36 hm.1) (fitR (by decide) (by decide)) (Nat.le_of_ble_eq_true rfl) (pqK ?_)
                exact r_i (dtk dt_X12_pairs 43 (79, .ireturn, 1) rfl) rfl (by rw [if_pos hok, if_neg hk0, if_pos (by omega)]) (by rw [if_pos hok, if_neg hk0, if_pos (by omega)])
          · skip
            refine x_aload_n (dtk dt_X12_pairs 28 (52, .aload_n 0, 1) rfl) rfl ?_
            refine x_iconst (v := 3) ⟨by decide, by decide⟩ (dtk dt_X12_pairs 29 (53, .iconst 3, 1) rfl) ?_
            refine kc_X12_89 rfl (dtk dt_X12_pairs 30 (54, .invokevirtual 89, 3) rfl) (c_X12_refused (G := G)  hm.1) rfl rfl (wk_36 hm.1) (fitR (by decide) (by decide)) (Nat.le_of_ble_eq_true rfl) (pqK ?_)
            exact r_i (dtk dt_X12_pairs 31 (57, .ireturn, 1) rfl) rfl (by rw [if_pos hok, if_pos (by omega)]) (by rw [if_pos hok, if_pos (by omega)])
        · skip
          refine x_aload_n (dtk dt_X12_pairs 19 (37, .aload_n 0, 1) rfl) rfl ?_
          refine x_iconst (v := 1) ⟨by decide, by decide⟩ (dtk dt_X12_pairs 20 (38, .iconst 1, 1) rfl) ?_
          refine kc_X12_89 rfl (dtk dt_X12_pairs 21 (39, .invokevirtual 89, 3) rfl) (c_X12_refused (G := G)  hm.1) rfl rfl (wk_36 hm.1) (fitR (by decide) (by decide)) (Nat.le_of_ble_eq_true rfl) (pqK ?_)
          exact r_i (dtk dt_X12_pairs 22 (42, .ireturn, 1) rfl) rfl (by rw [if_neg (by simp_all <;> omega)]) (by rw [if_neg (by simp_all <;> omega)])
set_option maxRecDepth 100000 in
set_option maxHeartbeats 4000000 in
theorem c_X12_orderTaken {G : GG} {n : Nat} {K : KK} {M : MM} {o k : Int} (hm : MO K M) : MC G mi_X12_orderTaken 3 0 0 [(1, 36), (0, o), (0, k)] n K M (PQ (some (0, if isOr M o then (if kOf (M 37 o) k then M 37 o else -1) else -1)) n K (if isOr M o then (if kOf (M 37 o) k then st2 M 36 12 0 else st2 M 36 12 11) else st2 M 36 12 10)) := by
  refine MC.intro (lc := [(0, (1, 36)), (1, (0, o)), (2, (0, k))]) (by decide) rfl (by simp [Nat.ble]) (Nat.le_of_ble_eq_true rfl) rfl (fun hMR => ?_)
  refine x_aload_n (dtk dt_X12_orderTaken 0 (0, .aload_n 0, 1) rfl) rfl ?_
  refine x_iload_n (dtk dt_X12_orderTaken 1 (1, .iload_n 1, 1) rfl) rfl ?_
  refine kc_X12_78 rfl (dtk dt_X12_orderTaken 2 (2, .invokevirtual 78, 3) rfl) (c_X12_isOrder (G := G)  hm) rfl rfl (wk_36 hm.1) (fitR (by decide) (by decide)) (Nat.le_of_ble_eq_true rfl) (pqK ?_)
  refine x_if_neB (tgt := 15) (dtk dt_X12_orderTaken 3 (5, .ifCond .ne 10, 3) rfl) (by decide) (fun c5 => ?_) (fun c5 => ?_)
  · skip
    have ho := isOr_of hm c5
    refine x_aload_n (dtk dt_X12_orderTaken 8 (15, .aload_n 0, 1) rfl) rfl ?_
    refine fg_X12_7 rfl (dtk dt_X12_orderTaken 9 (16, .getfield 7, 3) rfl) (wk_36 hm.1) (wm_36_1 hm.1) ?_
    refine x_iload_n (dtk dt_X12_orderTaken 10 (19, .iload_n 1, 1) rfl) rfl ?_
    refine x_iald (dtk dt_X12_orderTaken 11 (20, .iaload, 1) rfl) (wk_37 hm.1) ⟨by omega, by omega⟩ ?_
    refine x_istore_n (dtk dt_X12_orderTaken 12 (21, .istore_n 3, 1) rfl) (by decide) ?_
    have J59_4 : ∀ (j : Bool), (j = kOf (M 37 o) k) → MW G mi_X12_orderTaken (rmd 3 0 0) (MZ G (PQ (some (0, if isOr M o then (if kOf (M 37 o) k then M 37 o else -1) else -1)) n K (if isOr M o then (if kOf (M 37 o) k then st2 M 36 12 0 else st2 M 36 12 11) else st2 M 36 12 10)) 0 0) (0, 0) 59 [(0, (1, 36)), (1, (0, o)), (2, (0, k)), (3, (0, M 37 o))] [(0, B j)] n K (M) := by
      intro j hJ
      refine x_istore (dtk dt_X12_orderTaken 34 (59, .istore 4, 2) rfl) (by decide) ?_
      refine x_iload (dtk dt_X12_orderTaken 35 (61, .iload 4, 2) rfl) rfl ?_
      refine x_if_eqB (tgt := 74) (dtk dt_X12_orderTaken 36 (63, .ifCond .eq 11, 3) rfl) (by decide) (fun c63 => ?_) (fun c63 => ?_)
      · skip
        refine x_aload_n (dtk dt_X12_orderTaken 41 (74, .aload_n 0, 1) rfl) rfl ?_
        refine x_bipush (v := 11) ⟨by decide, by decide⟩ (dtk dt_X12_orderTaken 42 (75, .bipush 11, 2) rfl) ?_
        refine kc_X12_89 rfl (dtk dt_X12_orderTaken 43 (77, .invokevirtual 89, 3) rfl) (c_X12_refused (G := G)  hm.1) rfl rfl (wk_36 hm.1) (fitR (by decide) (by decide)) (Nat.le_of_ble_eq_true rfl) (pqK ?_)
        exact r_i (dtk dt_X12_orderTaken 44 (80, .ireturn, 1) rfl) rfl (by rw [if_pos c5, ← hJ, c63]; rfl) (by rw [if_pos c5, ← hJ, c63]; rfl)
      · skip
        refine x_aload_n (dtk dt_X12_orderTaken 37 (66, .aload_n 0, 1) rfl) rfl ?_
        refine x_iload_n (dtk dt_X12_orderTaken 38 (67, .iload_n 3, 1) rfl) rfl ?_
        refine kc_X12_97 rfl (dtk dt_X12_orderTaken 39 (68, .invokevirtual 97, 3) rfl) (c_X12_done (G := G)  hm.1) rfl rfl (wk_36 hm.1) (fitR (by decide) (by decide)) (Nat.le_of_ble_eq_true rfl) (pqK ?_)
        refine x_goto (tgt := 80) (dtk dt_X12_orderTaken 40 (71, .goto 9, 3) rfl) (by decide) ?_
        exact r_i (dtk dt_X12_orderTaken 44 (80, .ireturn, 1) rfl) rfl (by rw [if_pos c5, ← hJ, c63]; rfl) (by rw [if_pos c5, ← hJ, c63]; rfl)
    refine x_iload_n (dtk dt_X12_orderTaken 13 (22, .iload_n 2, 1) rfl) rfl ?_
    refine x_if_eq (tgt := 54) (dtk dt_X12_orderTaken 14 (23, .ifCond .eq 31, 3) rfl) (by decide) (fun c23 => ?_) (fun c23 => ?_)
    · skip
      refine x_iconst (v := 1) ⟨by decide, by decide⟩ (dtk dt_X12_orderTaken 31 (54, .iconst 1, 1) rfl) ?_
      refine x_goto (tgt := 59) (dtk dt_X12_orderTaken 32 (55, .goto 4, 3) rfl) (by decide) ?_
      refine MW.sub [1, 2, 3, 0] rfl ?_
      exact J59_4 true (by unfold kOf; simp_all)
    · skip
      refine x_iload_n (dtk dt_X12_orderTaken 15 (26, .iload_n 2, 1) rfl) rfl ?_
      refine x_iload_n (dtk dt_X12_orderTaken 16 (27, .iload_n 3, 1) rfl) rfl ?_
      refine x_icmp_eq (tgt := 54) (dtk dt_X12_orderTaken 17 (28, .if_icmp .eq 26, 3) rfl) (by decide) (fun c28 => ?_) (fun c28 => ?_)
      · skip
        refine x_iconst (v := 1) ⟨by decide, by decide⟩ (dtk dt_X12_orderTaken 31 (54, .iconst 1, 1) rfl) ?_
        refine x_goto (tgt := 59) (dtk dt_X12_orderTaken 32 (55, .goto 4, 3) rfl) (by decide) ?_
        refine MW.sub [1, 2, 3, 0] rfl ?_
        exact J59_4 true (by unfold kOf; simp_all)
      · skip
        refine x_iload_n (dtk dt_X12_orderTaken 18 (31, .iload_n 2, 1) rfl) rfl ?_
        refine x_iconst (v := 1) ⟨by decide, by decide⟩ (dtk dt_X12_orderTaken 19 (32, .iconst 1, 1) rfl) ?_
        refine x_icmp_ne (tgt := 44) (dtk dt_X12_orderTaken 20 (33, .if_icmp .ne 11, 3) rfl) (by decide) (fun c33 => ?_) (fun c33 => ?_)
        · skip
          refine x_iload_n (dtk dt_X12_orderTaken 25 (44, .iload_n 2, 1) rfl) rfl ?_
          refine x_iconst (v := 2) ⟨by decide, by decide⟩ (dtk dt_X12_orderTaken 26 (45, .iconst 2, 1) rfl) ?_
          refine x_icmp_ne (tgt := 58) (dtk dt_X12_orderTaken 27 (46, .if_icmp .ne 12, 3) rfl) (by decide) (fun c46 => ?_) (fun c46 => ?_)
          · skip
            refine x_iconst (v := 0) ⟨by decide, by decide⟩ (dtk dt_X12_orderTaken 33 (58, .iconst 0, 1) rfl) ?_
            refine MW.sub [1, 2, 3, 0] rfl ?_
            exact J59_4 false (by unfold kOf; simp_all)
          · skip
            refine x_iload_n (dtk dt_X12_orderTaken 28 (49, .iload_n 3, 1) rfl) rfl ?_
            refine x_iconst (v := 3) ⟨by decide, by decide⟩ (dtk dt_X12_orderTaken 29 (50, .iconst 3, 1) rfl) ?_
            refine x_icmp_ne (tgt := 58) (dtk dt_X12_orderTaken 30 (51, .if_icmp .ne 7, 3) rfl) (by decide) (fun c51 => ?_) (fun c51 => ?_)
            · skip
              refine x_iconst (v := 0) ⟨by decide, by decide⟩ (dtk dt_X12_orderTaken 33 (58, .iconst 0, 1) rfl) ?_
              refine MW.sub [1, 2, 3, 0] rfl ?_
              exact J59_4 false (by unfold kOf; simp_all)
            · skip
              refine x_iconst (v := 1) ⟨by decide, by decide⟩ (dtk dt_X12_orderTaken 31 (54, .iconst 1, 1) rfl) ?_
              refine x_goto (tgt := 59) (dtk dt_X12_orderTaken 32 (55, .goto 4, 3) rfl) (by decide) ?_
              refine MW.sub [1, 2, 3, 0] rfl ?_
              exact J59_4 true (by unfold kOf; simp_all)
        · skip
          refine x_aload_n (dtk dt_X12_orderTaken 21 (36, .aload_n 0, 1) rfl) rfl ?_
          refine x_iload_n (dtk dt_X12_orderTaken 22 (37, .iload_n 1, 1) rfl) rfl ?_
          refine kc_X12_269 rfl (dtk dt_X12_orderTaken 23 (38, .invokevirtual 269, 3) rfl) (c_X12_isStack (G := G)  hm.1 (by omega)) rfl rfl (wk_36 hm.1) (fitR (by decide) (by decide)) (Nat.le_of_ble_eq_true rfl) (pqK ?_)
          refine x_if_neB (tgt := 54) (dtk dt_X12_orderTaken 24 (41, .ifCond .ne 13, 3) rfl) (by decide) (fun c41 => ?_) (fun c41 => ?_)
          · skip
            refine x_iconst (v := 1) ⟨by decide, by decide⟩ (dtk dt_X12_orderTaken 31 (54, .iconst 1, 1) rfl) ?_
            refine x_goto (tgt := 59) (dtk dt_X12_orderTaken 32 (55, .goto 4, 3) rfl) (by decide) ?_
            refine MW.sub [1, 2, 3, 0] rfl ?_
            exact J59_4 true (by unfold kOf; simp_all)
          · skip
            refine x_iload_n (dtk dt_X12_orderTaken 25 (44, .iload_n 2, 1) rfl) rfl ?_
            refine x_iconst (v := 2) ⟨by decide, by decide⟩ (dtk dt_X12_orderTaken 26 (45, .iconst 2, 1) rfl) ?_
            refine x_icmp_ne (tgt := 58) (dtk dt_X12_orderTaken 27 (46, .if_icmp .ne 12, 3) rfl) (by decide) (fun c46 => ?_) (fun c46 => ?_)
            · skip
              refine x_iconst (v := 0) ⟨by decide, by decide⟩ (dtk dt_X12_orderTaken 33 (58, .iconst 0, 1) rfl) ?_
              refine MW.sub [1, 2, 3, 0] rfl ?_
              exact J59_4 false (by unfold kOf; simp_all)
            · skip
              refine x_iload_n (dtk dt_X12_orderTaken 28 (49, .iload_n 3, 1) rfl) rfl ?_
              refine x_iconst (v := 3) ⟨by decide, by decide⟩ (dtk dt_X12_orderTaken 29 (50, .iconst 3, 1) rfl) ?_
              refine x_icmp_ne (tgt := 58) (dtk dt_X12_orderTaken 30 (51, .if_icmp .ne 7, 3) rfl) (by decide) (fun c51 => ?_) (fun c51 => ?_)
              · skip
                refine x_iconst (v := 0) ⟨by decide, by decide⟩ (dtk dt_X12_orderTaken 33 (58, .iconst 0, 1) rfl) ?_
                refine MW.sub [1, 2, 3, 0] rfl ?_
                exact J59_4 false (by unfold kOf; simp_all)
              · skip
                refine x_iconst (v := 1) ⟨by decide, by decide⟩ (dtk dt_X12_orderTaken 31 (54, .iconst 1, 1) rfl) ?_
                refine x_goto (tgt := 59) (dtk dt_X12_orderTaken 32 (55, .goto 4, 3) rfl) (by decide) ?_
                refine MW.sub [1, 2, 3, 0] rfl ?_
                exact J59_4 true (by unfold kOf; simp_all)
  · skip
    refine x_aload_n (dtk dt_X12_orderTaken 4 (8, .aload_n 0, 1) rfl) rfl ?_
    refine x_bipush (v := 10) ⟨by decide, by decide⟩ (dtk dt_X12_orderTaken 5 (9, .bipush 10, 2) rfl) ?_
    refine kc_X12_89 rfl (dtk dt_X12_orderTaken 6 (11, .invokevirtual 89, 3) rfl) (c_X12_refused (G := G)  hm.1) rfl rfl (wk_36 hm.1) (fitR (by decide) (by decide)) (Nat.le_of_ble_eq_true rfl) (pqK ?_)
    exact r_i (dtk dt_X12_orderTaken 7 (14, .ireturn, 1) rfl) rfl (by simp_all) (by simp_all)
set_option maxRecDepth 100000 in
set_option maxHeartbeats 4000000 in
theorem c_X12_copied {G : GG} {n : Nat} {K : KK} {M : MM} {s q : Int} (hw : WF K M) (hc : ∀ i, 0 ≤ i → i < 80 → 0 ≤ M 44 i ∧ M 44 i ≤ 100) (hs : 0 ≤ s ∧ s < 4) (hq : 0 ≤ q ∧ q ≤ 3) : MC G mi_X12_copied 1 0 0 [(1, 36), (0, s), (0, q)] n K M (PQ (some (0, sumZ q (fun k => M 44 (20 * s + (k + 1))))) n K (M)) := by
  refine MC.intro (lc := [(0, (1, 36)), (1, (0, s)), (2, (0, q))]) (by decide) rfl (by simp [Nat.ble]) (Nat.le_of_ble_eq_true rfl) rfl (fun hMR => ?_)
  refine x_iconst (v := 0) ⟨by decide, by decide⟩ (dtk dt_X12_copied 0 (0, .iconst 0, 1) rfl) ?_
  refine x_istore_n (dtk dt_X12_copied 1 (1, .istore_n 3, 1) rfl) (by decide) ?_
  refine x_iconst (v := 1) ⟨by decide, by decide⟩ (dtk dt_X12_copied 2 (2, .iconst 1, 1) rfl) ?_
  refine x_istore (dtk dt_X12_copied 3 (3, .istore 4, 2) rfl) (by decide) ?_
  have L5 : ∀ (fu : Nat) (v3 : Int) (v4 : Int), (1 ≤ v4 ∧ v4 ≤ q + 1) → (v3 = sumZ (v4 - 1) (fun k => M 44 (20 * s + (k + 1)))) → (q + 1 - v4).toNat = fu → MW G mi_X12_copied (rmd 1 0 0) (MZ G (PQ (some (0, sumZ q (fun k => M 44 (20 * s + (k + 1))))) n K (M)) 0 0) (0, 0) 5 [(0, (1, 36)), (1, (0, s)), (2, (0, q)), (3, (0, v3)), (4, (0, v4))] [] n K (M) := by
    intro fu
    induction fu using Nat.strongRecOn with
    | ind fu ih5 =>
      intro v3 v4 h1 h2 hk5
      have hb := cop_b (s := s) (v4 - 1) (hMR 44) hc hs (by omega)
      rw [← h2] at hb
      refine x_iload (dtk dt_X12_copied 4 (5, .iload 4, 2) rfl) rfl ?_
      refine x_iload_n (dtk dt_X12_copied 5 (7, .iload_n 2, 1) rfl) rfl ?_
      refine x_icmp_gt (tgt := 32) (dtk dt_X12_copied 6 (8, .if_icmp .gt 24, 3) rfl) (by decide) (fun c8 => ?_) (fun c8 => ?_)
      · skip
        refine x_iload_n (dtk dt_X12_copied 20 (32, .iload_n 3, 1) rfl) rfl ?_
        exact r_i (dtk dt_X12_copied 21 (33, .ireturn, 1) rfl) rfl (by rw [h2, show v4 - 1 = q by omega]) rfl
      · skip
        refine x_iload_n (dtk dt_X12_copied 7 (11, .iload_n 3, 1) rfl) rfl ?_
        refine x_aload_n (dtk dt_X12_copied 8 (12, .aload_n 0, 1) rfl) rfl ?_
        refine fg_X12_35 rfl (dtk dt_X12_copied 9 (13, .getfield 35, 3) rfl) (wk_36 hw) (wm_36_11 hw) ?_
        refine x_bipush (v := 20) ⟨by decide, by decide⟩ (dtk dt_X12_copied 10 (16, .bipush 20, 2) rfl) ?_
        refine x_iload_n (dtk dt_X12_copied 11 (18, .iload_n 1, 1) rfl) rfl ?_
        refine y_imul (dtk dt_X12_copied 12 (19, .imul, 1) rfl) ⟨by omega, by omega⟩ ?_
        refine x_iload (dtk dt_X12_copied 13 (20, .iload 4, 2) rfl) rfl ?_
        refine y_iadd (dtk dt_X12_copied 14 (22, .iadd, 1) rfl) ⟨by omega, by omega⟩ ?_
        refine x_iald (dtk dt_X12_copied 15 (23, .iaload, 1) rfl) (wk_44 hw) ⟨by omega, by omega⟩ ?_
        have hci := hc (20 * s + v4) (by omega) (by omega)
        refine y_iadd (dtk dt_X12_copied 16 (24, .iadd, 1) rfl) ⟨by omega, by omega⟩ ?_
        refine x_istore_n (dtk dt_X12_copied 17 (25, .istore_n 3, 1) rfl) (by decide) ?_
        refine y_iinc (dtk dt_X12_copied 18 (26, .iinc 4 1, 3) rfl) rfl (by decide) ⟨by omega, by omega⟩ ?_
        refine x_goto (tgt := 5) (dtk dt_X12_copied 19 (29, .goto (-24), 3) rfl) (by decide) ?_
        refine MW.sub [2, 3, 4, 1, 0] rfl ?_
        exact ih5 _ (by omega) _ _ (by omega) (by rw [show v4 + 1 - 1 = (v4 - 1) + 1 by omega, sumZ_s (by omega), ← h2, show v4 - 1 + 1 = v4 by omega]) rfl
  refine MW.sub [2, 3, 4, 1, 0] rfl ?_
  exact L5 _ _ _ (by omega) rfl rfl
