/-! ===== the class: acts of the six kinds ===== -/
set_option maxRecDepth 100000 in
set_option maxHeartbeats 1000000 in
theorem c_X4_lookAct_0 {G : GG} {n : Nat} {K : KK} {M : MM} {p x nm m : Int} {d : Int → Int} (hO : OB K M p 4 nm m d) (hl : LN K M 6 60) : MC G mi_X4_lookAct 2 0 0 [(1, p), (0, x), (1, 6)] n K M (PQ (some (0, wr (x + prs m d))) n K (adL M [10])) := by
  refine MC.intro (lc := [(0, (1, p)), (1, (0, x)), (2, (1, 6))]) (by decide) rfl (by simp [Nat.ble]) (Nat.le_of_ble_eq_true rfl) rfl (fun hMR => ?_)
  refine x_aload_n (dtk dt_X4_lookAct 0 (0, .aload_n 2, 1) rfl) rfl ?_
  refine x_bipush (v := 10) ⟨by decide, by decide⟩ (dtk dt_X4_lookAct 1 (1, .bipush 10, 2) rfl) ?_
  refine kc_X4_37 rfl (dtk dt_X4_lookAct 2 (3, .invokevirtual 37, 3) rfl) (c_X3_add (G := G) (l := 6) (ln := 60) hl) rfl rfl (wk_6 hO.wf) (fitR (by decide) (by decide)) (Nat.le_of_ble_eq_true rfl) (pqK ?_)
  rw [show addM M 6 10 60 = adL M [10] from rfl]
  refine x_iload_n (dtk dt_X4_lookAct 3 (6, .iload_n 1, 1) rfl) rfl ?_
  refine x_aload_n (dtk dt_X4_lookAct 4 (7, .aload_n 0, 1) rfl) rfl ?_
  refine fg_X4_18 rfl (dtk dt_X4_lookAct 5 (8, .getfield 18, 3) rfl) hO.k hO.c (hO.ad [10]).pc ?_
  refine w_iadd (dtk dt_X4_lookAct 6 (11, .iadd, 1) rfl) ?_
  exact r_i (dtk dt_X4_lookAct 7 (12, .ireturn, 1) rfl) rfl rfl rfl
set_option maxRecDepth 100000 in
set_option maxHeartbeats 1000000 in
theorem c_X4_partAct_0 {G : GG} {n : Nat} {K : KK} {M : MM} {p x nm m : Int} {d : Int → Int} (hO : OB K M p 4 nm m d) (hl : LN K M 6 60) : MC G mi_X4_partAct 3 0 0 [(1, p), (0, x), (1, 6)] n K M (PQ (some (0, wr (wr (x + prs m d) * m))) n K (adL M [11, 10])) := by
  refine MC.intro (lc := [(0, (1, p)), (1, (0, x)), (2, (1, 6))]) (by decide) rfl (by simp [Nat.ble]) (Nat.le_of_ble_eq_true rfl) rfl (fun hMR => ?_)
  refine x_aload_n (dtk dt_X4_partAct 0 (0, .aload_n 2, 1) rfl) rfl ?_
  refine x_bipush (v := 11) ⟨by decide, by decide⟩ (dtk dt_X4_partAct 1 (1, .bipush 11, 2) rfl) ?_
  refine kc_X4_37 rfl (dtk dt_X4_partAct 2 (3, .invokevirtual 37, 3) rfl) (c_X3_add (G := G) (l := 6) (ln := 60) hl) rfl rfl (wk_6 hO.wf) (fitR (by decide) (by decide)) (Nat.le_of_ble_eq_true rfl) (pqK ?_)
  rw [show addM M 6 11 60 = adL M [11] from rfl]
  refine x_aload_n (dtk dt_X4_partAct 3 (6, .aload_n 0, 1) rfl) rfl ?_
  refine x_iload_n (dtk dt_X4_partAct 4 (7, .iload_n 1, 1) rfl) rfl ?_
  refine x_aload_n (dtk dt_X4_partAct 5 (8, .aload_n 2, 1) rfl) rfl ?_
  refine kc_X4_43_X4 rfl (dtk dt_X4_partAct 6 (9, .invokevirtual 43, 3) rfl) (c_X4_lookAct_0 (G := G)  (hO.ad [11]) (LN.ad [11] hl)) rfl rfl hO.k (fitR (by decide) (by decide)) (Nat.le_of_ble_eq_true rfl) (pqK ?_)
  rw [show adL (adL M [11]) [10] = adL M [11, 10] from adL_app _ _ _]
  refine x_aload_n (dtk dt_X4_partAct 7 (12, .aload_n 0, 1) rfl) rfl ?_
  refine fg_X4_34 rfl (dtk dt_X4_partAct 8 (13, .getfield 34, 3) rfl) hO.k hO.c (hO.ad [11, 10]).n ?_
  refine w_imul (dtk dt_X4_partAct 9 (16, .imul, 1) rfl) ?_
  exact r_i (dtk dt_X4_partAct 10 (17, .ireturn, 1) rfl) rfl rfl rfl
set_option maxRecDepth 100000 in
set_option maxHeartbeats 1000000 in
theorem c_X4_joinAct_0 {G : GG} {n : Nat} {K : KK} {M : MM} {p x nm m : Int} {d : Int → Int} (hO : OB K M p 4 nm m d) (hl : LN K M 6 60) : MC G mi_X4_joinAct 2 0 0 [(1, p), (0, x), (1, 6)] n K M (PQ (some (0, wr (x - nm))) n K (adL M [12])) := by
  refine MC.intro (lc := [(0, (1, p)), (1, (0, x)), (2, (1, 6))]) (by decide) rfl (by simp [Nat.ble]) (Nat.le_of_ble_eq_true rfl) rfl (fun hMR => ?_)
  refine x_aload_n (dtk dt_X4_joinAct 0 (0, .aload_n 2, 1) rfl) rfl ?_
  refine x_bipush (v := 12) ⟨by decide, by decide⟩ (dtk dt_X4_joinAct 1 (1, .bipush 12, 2) rfl) ?_
  refine kc_X4_37 rfl (dtk dt_X4_joinAct 2 (3, .invokevirtual 37, 3) rfl) (c_X3_add (G := G) (l := 6) (ln := 60) hl) rfl rfl (wk_6 hO.wf) (fitR (by decide) (by decide)) (Nat.le_of_ble_eq_true rfl) (pqK ?_)
  rw [show addM M 6 12 60 = adL M [12] from rfl]
  refine x_iload_n (dtk dt_X4_joinAct 3 (6, .iload_n 1, 1) rfl) rfl ?_
  refine x_aload_n (dtk dt_X4_joinAct 4 (7, .aload_n 0, 1) rfl) rfl ?_
  refine fg_X4_22 rfl (dtk dt_X4_joinAct 5 (8, .getfield 22, 3) rfl) hO.k hO.c (hO.ad [12]).num ?_
  refine w_isub (dtk dt_X4_joinAct 6 (11, .isub, 1) rfl) ?_
  exact r_i (dtk dt_X4_joinAct 7 (12, .ireturn, 1) rfl) rfl rfl rfl
set_option maxRecDepth 100000 in
set_option maxHeartbeats 1000000 in
theorem c_X4_tellAct_0 {G : GG} {n : Nat} {K : KK} {M : MM} {p x nm m : Int} {d : Int → Int} (hO : OB K M p 4 nm m d) (hl : LN K M 6 60) : MC G mi_X4_tellAct 4 0 0 [(1, p), (0, x), (1, 6)] n K M (PQ (some (0, zxor (wr (wr (x + prs m d) * m)) (wr (x - nm)))) n K (adL M [13, 11, 10, 12])) := by
  refine MC.intro (lc := [(0, (1, p)), (1, (0, x)), (2, (1, 6))]) (by decide) rfl (by simp [Nat.ble]) (Nat.le_of_ble_eq_true rfl) rfl (fun hMR => ?_)
  refine x_aload_n (dtk dt_X4_tellAct 0 (0, .aload_n 2, 1) rfl) rfl ?_
  refine x_bipush (v := 13) ⟨by decide, by decide⟩ (dtk dt_X4_tellAct 1 (1, .bipush 13, 2) rfl) ?_
  refine kc_X4_37 rfl (dtk dt_X4_tellAct 2 (3, .invokevirtual 37, 3) rfl) (c_X3_add (G := G) (l := 6) (ln := 60) hl) rfl rfl (wk_6 hO.wf) (fitR (by decide) (by decide)) (Nat.le_of_ble_eq_true rfl) (pqK ?_)
  rw [show addM M 6 13 60 = adL M [13] from rfl]
  refine x_aload_n (dtk dt_X4_tellAct 3 (6, .aload_n 0, 1) rfl) rfl ?_
  refine x_iload_n (dtk dt_X4_tellAct 4 (7, .iload_n 1, 1) rfl) rfl ?_
  refine x_aload_n (dtk dt_X4_tellAct 5 (8, .aload_n 2, 1) rfl) rfl ?_
  refine kc_X4_47_X4 rfl (dtk dt_X4_tellAct 6 (9, .invokevirtual 47, 3) rfl) (c_X4_partAct_0 (G := G)  (hO.ad [13]) (LN.ad [13] hl)) rfl rfl hO.k (fitR (by decide) (by decide)) (Nat.le_of_ble_eq_true rfl) (pqK ?_)
  rw [show adL (adL M [13]) [11, 10] = adL M [13, 11, 10] from adL_app _ _ _]
  refine x_aload_n (dtk dt_X4_tellAct 7 (12, .aload_n 0, 1) rfl) rfl ?_
  refine x_iload_n (dtk dt_X4_tellAct 8 (13, .iload_n 1, 1) rfl) rfl ?_
  refine x_aload_n (dtk dt_X4_tellAct 9 (14, .aload_n 2, 1) rfl) rfl ?_
  refine kc_X4_50_X4 rfl (dtk dt_X4_tellAct 10 (15, .invokevirtual 50, 3) rfl) (c_X4_joinAct_0 (G := G)  (hO.ad [13, 11, 10]) (LN.ad [13, 11, 10] hl)) rfl rfl hO.k (fitR (by decide) (by decide)) (Nat.le_of_ble_eq_true rfl) (pqK ?_)
  rw [show adL (adL M [13, 11, 10]) [12] = adL M [13, 11, 10, 12] from adL_app _ _ _]
  refine x_ixor (dtk dt_X4_tellAct 11 (18, .ixor, 1) rfl) ?_
  exact r_i (dtk dt_X4_tellAct 12 (19, .ireturn, 1) rfl) rfl rfl rfl
set_option maxRecDepth 100000 in
set_option maxHeartbeats 1000000 in
theorem c_X4_lookAct_1 {G : GG} {n : Nat} {K : KK} {M : MM} {p x nm m : Int} {d : Int → Int} (hO : OB K M p 9 nm m d) (hl : LN K M 6 60) : MC G mi_X4_lookAct 2 0 0 [(1, p), (0, x), (1, 6)] n K M (PQ (some (0, wr (x + prs m d))) n K (adL M [10])) := by
  refine MC.intro (lc := [(0, (1, p)), (1, (0, x)), (2, (1, 6))]) (by decide) rfl (by simp [Nat.ble]) (Nat.le_of_ble_eq_true rfl) rfl (fun hMR => ?_)
  refine x_aload_n (dtk dt_X4_lookAct 0 (0, .aload_n 2, 1) rfl) rfl ?_
  refine x_bipush (v := 10) ⟨by decide, by decide⟩ (dtk dt_X4_lookAct 1 (1, .bipush 10, 2) rfl) ?_
  refine kc_X4_37 rfl (dtk dt_X4_lookAct 2 (3, .invokevirtual 37, 3) rfl) (c_X3_add (G := G) (l := 6) (ln := 60) hl) rfl rfl (wk_6 hO.wf) (fitR (by decide) (by decide)) (Nat.le_of_ble_eq_true rfl) (pqK ?_)
  rw [show addM M 6 10 60 = adL M [10] from rfl]
  refine x_iload_n (dtk dt_X4_lookAct 3 (6, .iload_n 1, 1) rfl) rfl ?_
  refine x_aload_n (dtk dt_X4_lookAct 4 (7, .aload_n 0, 1) rfl) rfl ?_
  refine fg_X4_18 rfl (dtk dt_X4_lookAct 5 (8, .getfield 18, 3) rfl) hO.k hO.c (hO.ad [10]).pc ?_
  refine w_iadd (dtk dt_X4_lookAct 6 (11, .iadd, 1) rfl) ?_
  exact r_i (dtk dt_X4_lookAct 7 (12, .ireturn, 1) rfl) rfl rfl rfl
set_option maxRecDepth 100000 in
set_option maxHeartbeats 1000000 in
theorem c_X9_lookAct_1 {G : GG} {n : Nat} {K : KK} {M : MM} {p x nm m : Int} {d : Int → Int} (hO : OB K M p 9 nm m d) (hl : LN K M 6 60) : MC G mi_X9_lookAct 3 0 0 [(1, p), (0, x), (1, 6)] n K M (PQ (some (0, wr (wr (x + prs m d) + 1))) n K (adL M [20, 10])) := by
  refine MC.intro (lc := [(0, (1, p)), (1, (0, x)), (2, (1, 6))]) (by decide) rfl (by simp [Nat.ble]) (Nat.le_of_ble_eq_true rfl) rfl (fun hMR => ?_)
  refine x_aload_n (dtk dt_X9_lookAct 0 (0, .aload_n 2, 1) rfl) rfl ?_
  refine x_bipush (v := 20) ⟨by decide, by decide⟩ (dtk dt_X9_lookAct 1 (1, .bipush 20, 2) rfl) ?_
  refine kc_X9_7 rfl (dtk dt_X9_lookAct 2 (3, .invokevirtual 7, 3) rfl) (c_X3_add (G := G) (l := 6) (ln := 60) hl) rfl rfl (wk_6 hO.wf) (fitR (by decide) (by decide)) (Nat.le_of_ble_eq_true rfl) (pqK ?_)
  rw [show addM M 6 20 60 = adL M [20] from rfl]
  refine x_aload_n (dtk dt_X9_lookAct 3 (6, .aload_n 0, 1) rfl) rfl ?_
  refine x_iload_n (dtk dt_X9_lookAct 4 (7, .iload_n 1, 1) rfl) rfl ?_
  refine x_aload_n (dtk dt_X9_lookAct 5 (8, .aload_n 2, 1) rfl) rfl ?_
  refine kc_X9_13 rfl (dtk dt_X9_lookAct 6 (9, .invokespecial 13, 3) rfl) (c_X4_lookAct_1 (G := G)  (hO.ad [20]) (LN.ad [20] hl)) rfl rfl hO.k hO.c (fitR (by decide) (by decide)) (Nat.le_of_ble_eq_true rfl) (pqK ?_)
  rw [show adL (adL M [20]) [10] = adL M [20, 10] from adL_app _ _ _]
  refine x_iconst (v := 1) ⟨by decide, by decide⟩ (dtk dt_X9_lookAct 7 (12, .iconst 1, 1) rfl) ?_
  refine w_iadd (dtk dt_X9_lookAct 8 (13, .iadd, 1) rfl) ?_
  exact r_i (dtk dt_X9_lookAct 9 (14, .ireturn, 1) rfl) rfl rfl rfl
set_option maxRecDepth 100000 in
set_option maxHeartbeats 1000000 in
theorem c_X4_partAct_1 {G : GG} {n : Nat} {K : KK} {M : MM} {p x nm m : Int} {d : Int → Int} (hO : OB K M p 9 nm m d) (hl : LN K M 6 60) : MC G mi_X4_partAct 4 0 0 [(1, p), (0, x), (1, 6)] n K M (PQ (some (0, wr (wr (wr (x + prs m d) + 1) * m))) n K (adL M [11, 20, 10])) := by
  refine MC.intro (lc := [(0, (1, p)), (1, (0, x)), (2, (1, 6))]) (by decide) rfl (by simp [Nat.ble]) (Nat.le_of_ble_eq_true rfl) rfl (fun hMR => ?_)
  refine x_aload_n (dtk dt_X4_partAct 0 (0, .aload_n 2, 1) rfl) rfl ?_
  refine x_bipush (v := 11) ⟨by decide, by decide⟩ (dtk dt_X4_partAct 1 (1, .bipush 11, 2) rfl) ?_
  refine kc_X4_37 rfl (dtk dt_X4_partAct 2 (3, .invokevirtual 37, 3) rfl) (c_X3_add (G := G) (l := 6) (ln := 60) hl) rfl rfl (wk_6 hO.wf) (fitR (by decide) (by decide)) (Nat.le_of_ble_eq_true rfl) (pqK ?_)
  rw [show addM M 6 11 60 = adL M [11] from rfl]
  refine x_aload_n (dtk dt_X4_partAct 3 (6, .aload_n 0, 1) rfl) rfl ?_
  refine x_iload_n (dtk dt_X4_partAct 4 (7, .iload_n 1, 1) rfl) rfl ?_
  refine x_aload_n (dtk dt_X4_partAct 5 (8, .aload_n 2, 1) rfl) rfl ?_
  refine kc_X4_43_X9 rfl (dtk dt_X4_partAct 6 (9, .invokevirtual 43, 3) rfl) (c_X9_lookAct_1 (G := G)  (hO.ad [11]) (LN.ad [11] hl)) rfl rfl hO.k (fitR (by decide) (by decide)) (Nat.le_of_ble_eq_true rfl) (pqK ?_)
  rw [show adL (adL M [11]) [20, 10] = adL M [11, 20, 10] from adL_app _ _ _]
  refine x_aload_n (dtk dt_X4_partAct 7 (12, .aload_n 0, 1) rfl) rfl ?_
  refine fg_X4_34 rfl (dtk dt_X4_partAct 8 (13, .getfield 34, 3) rfl) hO.k hO.c (hO.ad [11, 20, 10]).n ?_
  refine w_imul (dtk dt_X4_partAct 9 (16, .imul, 1) rfl) ?_
  exact r_i (dtk dt_X4_partAct 10 (17, .ireturn, 1) rfl) rfl rfl rfl
set_option maxRecDepth 100000 in
set_option maxHeartbeats 1000000 in
theorem c_X4_joinAct_1 {G : GG} {n : Nat} {K : KK} {M : MM} {p x nm m : Int} {d : Int → Int} (hO : OB K M p 9 nm m d) (hl : LN K M 6 60) : MC G mi_X4_joinAct 2 0 0 [(1, p), (0, x), (1, 6)] n K M (PQ (some (0, wr (x - nm))) n K (adL M [12])) := by
  refine MC.intro (lc := [(0, (1, p)), (1, (0, x)), (2, (1, 6))]) (by decide) rfl (by simp [Nat.ble]) (Nat.le_of_ble_eq_true rfl) rfl (fun hMR => ?_)
  refine x_aload_n (dtk dt_X4_joinAct 0 (0, .aload_n 2, 1) rfl) rfl ?_
  refine x_bipush (v := 12) ⟨by decide, by decide⟩ (dtk dt_X4_joinAct 1 (1, .bipush 12, 2) rfl) ?_
  refine kc_X4_37 rfl (dtk dt_X4_joinAct 2 (3, .invokevirtual 37, 3) rfl) (c_X3_add (G := G) (l := 6) (ln := 60) hl) rfl rfl (wk_6 hO.wf) (fitR (by decide) (by decide)) (Nat.le_of_ble_eq_true rfl) (pqK ?_)
  rw [show addM M 6 12 60 = adL M [12] from rfl]
  refine x_iload_n (dtk dt_X4_joinAct 3 (6, .iload_n 1, 1) rfl) rfl ?_
  refine x_aload_n (dtk dt_X4_joinAct 4 (7, .aload_n 0, 1) rfl) rfl ?_
  refine fg_X4_22 rfl (dtk dt_X4_joinAct 5 (8, .getfield 22, 3) rfl) hO.k hO.c (hO.ad [12]).num ?_
  refine w_isub (dtk dt_X4_joinAct 6 (11, .isub, 1) rfl) ?_
  exact r_i (dtk dt_X4_joinAct 7 (12, .ireturn, 1) rfl) rfl rfl rfl
set_option maxRecDepth 100000 in
set_option maxHeartbeats 1000000 in
theorem c_X4_tellAct_1 {G : GG} {n : Nat} {K : KK} {M : MM} {p x nm m : Int} {d : Int → Int} (hO : OB K M p 9 nm m d) (hl : LN K M 6 60) : MC G mi_X4_tellAct 5 0 0 [(1, p), (0, x), (1, 6)] n K M (PQ (some (0, zxor (wr (wr (wr (x + prs m d) + 1) * m)) (wr (x - nm)))) n K (adL M [13, 11, 20, 10, 12])) := by
  refine MC.intro (lc := [(0, (1, p)), (1, (0, x)), (2, (1, 6))]) (by decide) rfl (by simp [Nat.ble]) (Nat.le_of_ble_eq_true rfl) rfl (fun hMR => ?_)
  refine x_aload_n (dtk dt_X4_tellAct 0 (0, .aload_n 2, 1) rfl) rfl ?_
  refine x_bipush (v := 13) ⟨by decide, by decide⟩ (dtk dt_X4_tellAct 1 (1, .bipush 13, 2) rfl) ?_
  refine kc_X4_37 rfl (dtk dt_X4_tellAct 2 (3, .invokevirtual 37, 3) rfl) (c_X3_add (G := G) (l := 6) (ln := 60) hl) rfl rfl (wk_6 hO.wf) (fitR (by decide) (by decide)) (Nat.le_of_ble_eq_true rfl) (pqK ?_)
  rw [show addM M 6 13 60 = adL M [13] from rfl]
  refine x_aload_n (dtk dt_X4_tellAct 3 (6, .aload_n 0, 1) rfl) rfl ?_
  refine x_iload_n (dtk dt_X4_tellAct 4 (7, .iload_n 1, 1) rfl) rfl ?_
  refine x_aload_n (dtk dt_X4_tellAct 5 (8, .aload_n 2, 1) rfl) rfl ?_
  refine kc_X4_47_X9 rfl (dtk dt_X4_tellAct 6 (9, .invokevirtual 47, 3) rfl) (c_X4_partAct_1 (G := G)  (hO.ad [13]) (LN.ad [13] hl)) rfl rfl hO.k (fitR (by decide) (by decide)) (Nat.le_of_ble_eq_true rfl) (pqK ?_)
  rw [show adL (adL M [13]) [11, 20, 10] = adL M [13, 11, 20, 10] from adL_app _ _ _]
  refine x_aload_n (dtk dt_X4_tellAct 7 (12, .aload_n 0, 1) rfl) rfl ?_
  refine x_iload_n (dtk dt_X4_tellAct 8 (13, .iload_n 1, 1) rfl) rfl ?_
  refine x_aload_n (dtk dt_X4_tellAct 9 (14, .aload_n 2, 1) rfl) rfl ?_
  refine kc_X4_50_X9 rfl (dtk dt_X4_tellAct 10 (15, .invokevirtual 50, 3) rfl) (c_X4_joinAct_1 (G := G)  (hO.ad [13, 11, 20, 10]) (LN.ad [13, 11, 20, 10] hl)) rfl rfl hO.k (fitR (by decide) (by decide)) (Nat.le_of_ble_eq_true rfl) (pqK ?_)
  rw [show adL (adL M [13, 11, 20, 10]) [12] = adL M [13, 11, 20, 10, 12] from adL_app _ _ _]
  refine x_ixor (dtk dt_X4_tellAct 11 (18, .ixor, 1) rfl) ?_
  exact r_i (dtk dt_X4_tellAct 12 (19, .ireturn, 1) rfl) rfl rfl rfl
set_option maxRecDepth 100000 in
set_option maxHeartbeats 1000000 in
theorem c_X9_tellAct_1 {G : GG} {n : Nat} {K : KK} {M : MM} {p x nm m : Int} {d : Int → Int} (hO : OB K M p 9 nm m d) (hl : LN K M 6 60) : MC G mi_X9_tellAct 6 0 0 [(1, p), (0, x), (1, 6)] n K M (PQ (some (0, zxor (wr (wr (wr ((wr (x * 2)) + prs m d) + 1) * m)) (wr ((wr (x * 2)) - nm)))) n K (adL M [21, 13, 11, 20, 10, 12])) := by
  refine MC.intro (lc := [(0, (1, p)), (1, (0, x)), (2, (1, 6))]) (by decide) rfl (by simp [Nat.ble]) (Nat.le_of_ble_eq_true rfl) rfl (fun hMR => ?_)
  refine x_aload_n (dtk dt_X9_tellAct 0 (0, .aload_n 2, 1) rfl) rfl ?_
  refine x_bipush (v := 21) ⟨by decide, by decide⟩ (dtk dt_X9_tellAct 1 (1, .bipush 21, 2) rfl) ?_
  refine kc_X9_7 rfl (dtk dt_X9_tellAct 2 (3, .invokevirtual 7, 3) rfl) (c_X3_add (G := G) (l := 6) (ln := 60) hl) rfl rfl (wk_6 hO.wf) (fitR (by decide) (by decide)) (Nat.le_of_ble_eq_true rfl) (pqK ?_)
  rw [show addM M 6 21 60 = adL M [21] from rfl]
  refine x_aload_n (dtk dt_X9_tellAct 3 (6, .aload_n 0, 1) rfl) rfl ?_
  refine x_iload_n (dtk dt_X9_tellAct 4 (7, .iload_n 1, 1) rfl) rfl ?_
  refine x_iconst (v := 2) ⟨by decide, by decide⟩ (dtk dt_X9_tellAct 5 (8, .iconst 2, 1) rfl) ?_
  refine w_imul (dtk dt_X9_tellAct 6 (9, .imul, 1) rfl) ?_
  refine x_aload_n (dtk dt_X9_tellAct 7 (10, .aload_n 2, 1) rfl) rfl ?_
  refine kc_X9_17 rfl (dtk dt_X9_tellAct 8 (11, .invokespecial 17, 3) rfl) (c_X4_tellAct_1 (G := G)  (hO.ad [21]) (LN.ad [21] hl)) rfl rfl hO.k hO.c (fitR (by decide) (by decide)) (Nat.le_of_ble_eq_true rfl) (pqK ?_)
  rw [show adL (adL M [21]) [13, 11, 20, 10, 12] = adL M [21, 13, 11, 20, 10, 12] from adL_app _ _ _]
  exact r_i (dtk dt_X9_tellAct 9 (14, .ireturn, 1) rfl) rfl rfl rfl
set_option maxRecDepth 100000 in
set_option maxHeartbeats 1000000 in
theorem c_X4_lookAct_2 {G : GG} {n : Nat} {K : KK} {M : MM} {p x nm m : Int} {d : Int → Int} (hO : OB K M p 0 nm m d) (hl : LN K M 6 60) : MC G mi_X4_lookAct 2 0 0 [(1, p), (0, x), (1, 6)] n K M (PQ (some (0, wr (x + prs m d))) n K (adL M [10])) := by
  refine MC.intro (lc := [(0, (1, p)), (1, (0, x)), (2, (1, 6))]) (by decide) rfl (by simp [Nat.ble]) (Nat.le_of_ble_eq_true rfl) rfl (fun hMR => ?_)
  refine x_aload_n (dtk dt_X4_lookAct 0 (0, .aload_n 2, 1) rfl) rfl ?_
  refine x_bipush (v := 10) ⟨by decide, by decide⟩ (dtk dt_X4_lookAct 1 (1, .bipush 10, 2) rfl) ?_
  refine kc_X4_37 rfl (dtk dt_X4_lookAct 2 (3, .invokevirtual 37, 3) rfl) (c_X3_add (G := G) (l := 6) (ln := 60) hl) rfl rfl (wk_6 hO.wf) (fitR (by decide) (by decide)) (Nat.le_of_ble_eq_true rfl) (pqK ?_)
  rw [show addM M 6 10 60 = adL M [10] from rfl]
  refine x_iload_n (dtk dt_X4_lookAct 3 (6, .iload_n 1, 1) rfl) rfl ?_
  refine x_aload_n (dtk dt_X4_lookAct 4 (7, .aload_n 0, 1) rfl) rfl ?_
  refine fg_X4_18 rfl (dtk dt_X4_lookAct 5 (8, .getfield 18, 3) rfl) hO.k hO.c (hO.ad [10]).pc ?_
  refine w_iadd (dtk dt_X4_lookAct 6 (11, .iadd, 1) rfl) ?_
  exact r_i (dtk dt_X4_lookAct 7 (12, .ireturn, 1) rfl) rfl rfl rfl
set_option maxRecDepth 100000 in
set_option maxHeartbeats 1000000 in
theorem c_X9_lookAct_2 {G : GG} {n : Nat} {K : KK} {M : MM} {p x nm m : Int} {d : Int → Int} (hO : OB K M p 0 nm m d) (hl : LN K M 6 60) : MC G mi_X9_lookAct 3 0 0 [(1, p), (0, x), (1, 6)] n K M (PQ (some (0, wr (wr (x + prs m d) + 1))) n K (adL M [20, 10])) := by
  refine MC.intro (lc := [(0, (1, p)), (1, (0, x)), (2, (1, 6))]) (by decide) rfl (by simp [Nat.ble]) (Nat.le_of_ble_eq_true rfl) rfl (fun hMR => ?_)
  refine x_aload_n (dtk dt_X9_lookAct 0 (0, .aload_n 2, 1) rfl) rfl ?_
  refine x_bipush (v := 20) ⟨by decide, by decide⟩ (dtk dt_X9_lookAct 1 (1, .bipush 20, 2) rfl) ?_
  refine kc_X9_7 rfl (dtk dt_X9_lookAct 2 (3, .invokevirtual 7, 3) rfl) (c_X3_add (G := G) (l := 6) (ln := 60) hl) rfl rfl (wk_6 hO.wf) (fitR (by decide) (by decide)) (Nat.le_of_ble_eq_true rfl) (pqK ?_)
  rw [show addM M 6 20 60 = adL M [20] from rfl]
  refine x_aload_n (dtk dt_X9_lookAct 3 (6, .aload_n 0, 1) rfl) rfl ?_
  refine x_iload_n (dtk dt_X9_lookAct 4 (7, .iload_n 1, 1) rfl) rfl ?_
  refine x_aload_n (dtk dt_X9_lookAct 5 (8, .aload_n 2, 1) rfl) rfl ?_
  refine kc_X9_13 rfl (dtk dt_X9_lookAct 6 (9, .invokespecial 13, 3) rfl) (c_X4_lookAct_2 (G := G)  (hO.ad [20]) (LN.ad [20] hl)) rfl rfl hO.k hO.c (fitR (by decide) (by decide)) (Nat.le_of_ble_eq_true rfl) (pqK ?_)
  rw [show adL (adL M [20]) [10] = adL M [20, 10] from adL_app _ _ _]
  refine x_iconst (v := 1) ⟨by decide, by decide⟩ (dtk dt_X9_lookAct 7 (12, .iconst 1, 1) rfl) ?_
  refine w_iadd (dtk dt_X9_lookAct 8 (13, .iadd, 1) rfl) ?_
  exact r_i (dtk dt_X9_lookAct 9 (14, .ireturn, 1) rfl) rfl rfl rfl
set_option maxRecDepth 100000 in
set_option maxHeartbeats 1000000 in
theorem c_X4_partAct_2 {G : GG} {n : Nat} {K : KK} {M : MM} {p x nm m : Int} {d : Int → Int} (hO : OB K M p 0 nm m d) (hl : LN K M 6 60) : MC G mi_X4_partAct 4 0 0 [(1, p), (0, x), (1, 6)] n K M (PQ (some (0, wr (wr (wr (x + prs m d) + 1) * m))) n K (adL M [11, 20, 10])) := by
  refine MC.intro (lc := [(0, (1, p)), (1, (0, x)), (2, (1, 6))]) (by decide) rfl (by simp [Nat.ble]) (Nat.le_of_ble_eq_true rfl) rfl (fun hMR => ?_)
  refine x_aload_n (dtk dt_X4_partAct 0 (0, .aload_n 2, 1) rfl) rfl ?_
  refine x_bipush (v := 11) ⟨by decide, by decide⟩ (dtk dt_X4_partAct 1 (1, .bipush 11, 2) rfl) ?_
  refine kc_X4_37 rfl (dtk dt_X4_partAct 2 (3, .invokevirtual 37, 3) rfl) (c_X3_add (G := G) (l := 6) (ln := 60) hl) rfl rfl (wk_6 hO.wf) (fitR (by decide) (by decide)) (Nat.le_of_ble_eq_true rfl) (pqK ?_)
  rw [show addM M 6 11 60 = adL M [11] from rfl]
  refine x_aload_n (dtk dt_X4_partAct 3 (6, .aload_n 0, 1) rfl) rfl ?_
  refine x_iload_n (dtk dt_X4_partAct 4 (7, .iload_n 1, 1) rfl) rfl ?_
  refine x_aload_n (dtk dt_X4_partAct 5 (8, .aload_n 2, 1) rfl) rfl ?_
  refine kc_X4_43_X0 rfl (dtk dt_X4_partAct 6 (9, .invokevirtual 43, 3) rfl) (c_X9_lookAct_2 (G := G)  (hO.ad [11]) (LN.ad [11] hl)) rfl rfl hO.k (fitR (by decide) (by decide)) (Nat.le_of_ble_eq_true rfl) (pqK ?_)
  rw [show adL (adL M [11]) [20, 10] = adL M [11, 20, 10] from adL_app _ _ _]
  refine x_aload_n (dtk dt_X4_partAct 7 (12, .aload_n 0, 1) rfl) rfl ?_
  refine fg_X4_34 rfl (dtk dt_X4_partAct 8 (13, .getfield 34, 3) rfl) hO.k hO.c (hO.ad [11, 20, 10]).n ?_
  refine w_imul (dtk dt_X4_partAct 9 (16, .imul, 1) rfl) ?_
  exact r_i (dtk dt_X4_partAct 10 (17, .ireturn, 1) rfl) rfl rfl rfl
set_option maxRecDepth 100000 in
set_option maxHeartbeats 1000000 in
theorem c_X4_joinAct_2 {G : GG} {n : Nat} {K : KK} {M : MM} {p x nm m : Int} {d : Int → Int} (hO : OB K M p 0 nm m d) (hl : LN K M 6 60) : MC G mi_X4_joinAct 2 0 0 [(1, p), (0, x), (1, 6)] n K M (PQ (some (0, wr (x - nm))) n K (adL M [12])) := by
  refine MC.intro (lc := [(0, (1, p)), (1, (0, x)), (2, (1, 6))]) (by decide) rfl (by simp [Nat.ble]) (Nat.le_of_ble_eq_true rfl) rfl (fun hMR => ?_)
  refine x_aload_n (dtk dt_X4_joinAct 0 (0, .aload_n 2, 1) rfl) rfl ?_
  refine x_bipush (v := 12) ⟨by decide, by decide⟩ (dtk dt_X4_joinAct 1 (1, .bipush 12, 2) rfl) ?_
  refine kc_X4_37 rfl (dtk dt_X4_joinAct 2 (3, .invokevirtual 37, 3) rfl) (c_X3_add (G := G) (l := 6) (ln := 60) hl) rfl rfl (wk_6 hO.wf) (fitR (by decide) (by decide)) (Nat.le_of_ble_eq_true rfl) (pqK ?_)
  rw [show addM M 6 12 60 = adL M [12] from rfl]
  refine x_iload_n (dtk dt_X4_joinAct 3 (6, .iload_n 1, 1) rfl) rfl ?_
  refine x_aload_n (dtk dt_X4_joinAct 4 (7, .aload_n 0, 1) rfl) rfl ?_
  refine fg_X4_22 rfl (dtk dt_X4_joinAct 5 (8, .getfield 22, 3) rfl) hO.k hO.c (hO.ad [12]).num ?_
  refine w_isub (dtk dt_X4_joinAct 6 (11, .isub, 1) rfl) ?_
  exact r_i (dtk dt_X4_joinAct 7 (12, .ireturn, 1) rfl) rfl rfl rfl
set_option maxRecDepth 100000 in
set_option maxHeartbeats 1000000 in
theorem c_X0_joinAct_2 {G : GG} {n : Nat} {K : KK} {M : MM} {p x nm m : Int} {d : Int → Int} (hO : OB K M p 0 nm m d) (hl : LN K M 6 60) : MC G mi_X0_joinAct 3 0 0 [(1, p), (0, x), (1, 6)] n K M (PQ (some (0, wr (wr (x - nm) * 3))) n K (adL M [30, 12])) := by
  refine MC.intro (lc := [(0, (1, p)), (1, (0, x)), (2, (1, 6))]) (by decide) rfl (by simp [Nat.ble]) (Nat.le_of_ble_eq_true rfl) rfl (fun hMR => ?_)
  refine x_aload_n (dtk dt_X0_joinAct 0 (0, .aload_n 2, 1) rfl) rfl ?_
  refine x_bipush (v := 30) ⟨by decide, by decide⟩ (dtk dt_X0_joinAct 1 (1, .bipush 30, 2) rfl) ?_
  refine kc_X0_7 rfl (dtk dt_X0_joinAct 2 (3, .invokevirtual 7, 3) rfl) (c_X3_add (G := G) (l := 6) (ln := 60) hl) rfl rfl (wk_6 hO.wf) (fitR (by decide) (by decide)) (Nat.le_of_ble_eq_true rfl) (pqK ?_)
  rw [show addM M 6 30 60 = adL M [30] from rfl]
  refine x_aload_n (dtk dt_X0_joinAct 3 (6, .aload_n 0, 1) rfl) rfl ?_
  refine x_iload_n (dtk dt_X0_joinAct 4 (7, .iload_n 1, 1) rfl) rfl ?_
  refine x_aload_n (dtk dt_X0_joinAct 5 (8, .aload_n 2, 1) rfl) rfl ?_
  refine kc_X0_13 rfl (dtk dt_X0_joinAct 6 (9, .invokespecial 13, 3) rfl) (c_X4_joinAct_2 (G := G)  (hO.ad [30]) (LN.ad [30] hl)) rfl rfl hO.k hO.c (fitR (by decide) (by decide)) (Nat.le_of_ble_eq_true rfl) (pqK ?_)
  rw [show adL (adL M [30]) [12] = adL M [30, 12] from adL_app _ _ _]
  refine x_iconst (v := 3) ⟨by decide, by decide⟩ (dtk dt_X0_joinAct 7 (12, .iconst 3, 1) rfl) ?_
  refine w_imul (dtk dt_X0_joinAct 8 (13, .imul, 1) rfl) ?_
  exact r_i (dtk dt_X0_joinAct 9 (14, .ireturn, 1) rfl) rfl rfl rfl
set_option maxRecDepth 100000 in
set_option maxHeartbeats 1000000 in
theorem c_X4_tellAct_2 {G : GG} {n : Nat} {K : KK} {M : MM} {p x nm m : Int} {d : Int → Int} (hO : OB K M p 0 nm m d) (hl : LN K M 6 60) : MC G mi_X4_tellAct 5 0 0 [(1, p), (0, x), (1, 6)] n K M (PQ (some (0, zxor (wr (wr (wr (x + prs m d) + 1) * m)) (wr (wr (x - nm) * 3)))) n K (adL M [13, 11, 20, 10, 30, 12])) := by
  refine MC.intro (lc := [(0, (1, p)), (1, (0, x)), (2, (1, 6))]) (by decide) rfl (by simp [Nat.ble]) (Nat.le_of_ble_eq_true rfl) rfl (fun hMR => ?_)
  refine x_aload_n (dtk dt_X4_tellAct 0 (0, .aload_n 2, 1) rfl) rfl ?_
  refine x_bipush (v := 13) ⟨by decide, by decide⟩ (dtk dt_X4_tellAct 1 (1, .bipush 13, 2) rfl) ?_
  refine kc_X4_37 rfl (dtk dt_X4_tellAct 2 (3, .invokevirtual 37, 3) rfl) (c_X3_add (G := G) (l := 6) (ln := 60) hl) rfl rfl (wk_6 hO.wf) (fitR (by decide) (by decide)) (Nat.le_of_ble_eq_true rfl) (pqK ?_)
  rw [show addM M 6 13 60 = adL M [13] from rfl]
  refine x_aload_n (dtk dt_X4_tellAct 3 (6, .aload_n 0, 1) rfl) rfl ?_
  refine x_iload_n (dtk dt_X4_tellAct 4 (7, .iload_n 1, 1) rfl) rfl ?_
  refine x_aload_n (dtk dt_X4_tellAct 5 (8, .aload_n 2, 1) rfl) rfl ?_
  refine kc_X4_47_X0 rfl (dtk dt_X4_tellAct 6 (9, .invokevirtual 47, 3) rfl) (c_X4_partAct_2 (G := G)  (hO.ad [13]) (LN.ad [13] hl)) rfl rfl hO.k (fitR (by decide) (by decide)) (Nat.le_of_ble_eq_true rfl) (pqK ?_)
  rw [show adL (adL M [13]) [11, 20, 10] = adL M [13, 11, 20, 10] from adL_app _ _ _]
  refine x_aload_n (dtk dt_X4_tellAct 7 (12, .aload_n 0, 1) rfl) rfl ?_
  refine x_iload_n (dtk dt_X4_tellAct 8 (13, .iload_n 1, 1) rfl) rfl ?_
  refine x_aload_n (dtk dt_X4_tellAct 9 (14, .aload_n 2, 1) rfl) rfl ?_
  refine kc_X4_50_X0 rfl (dtk dt_X4_tellAct 10 (15, .invokevirtual 50, 3) rfl) (c_X0_joinAct_2 (G := G)  (hO.ad [13, 11, 20, 10]) (LN.ad [13, 11, 20, 10] hl)) rfl rfl hO.k (fitR (by decide) (by decide)) (Nat.le_of_ble_eq_true rfl) (pqK ?_)
  rw [show adL (adL M [13, 11, 20, 10]) [30, 12] = adL M [13, 11, 20, 10, 30, 12] from adL_app _ _ _]
  refine x_ixor (dtk dt_X4_tellAct 11 (18, .ixor, 1) rfl) ?_
  exact r_i (dtk dt_X4_tellAct 12 (19, .ireturn, 1) rfl) rfl rfl rfl
set_option maxRecDepth 100000 in
set_option maxHeartbeats 1000000 in
theorem c_X9_tellAct_2 {G : GG} {n : Nat} {K : KK} {M : MM} {p x nm m : Int} {d : Int → Int} (hO : OB K M p 0 nm m d) (hl : LN K M 6 60) : MC G mi_X9_tellAct 6 0 0 [(1, p), (0, x), (1, 6)] n K M (PQ (some (0, zxor (wr (wr (wr ((wr (x * 2)) + prs m d) + 1) * m)) (wr (wr ((wr (x * 2)) - nm) * 3)))) n K (adL M [21, 13, 11, 20, 10, 30, 12])) := by
  refine MC.intro (lc := [(0, (1, p)), (1, (0, x)), (2, (1, 6))]) (by decide) rfl (by simp [Nat.ble]) (Nat.le_of_ble_eq_true rfl) rfl (fun hMR => ?_)
  refine x_aload_n (dtk dt_X9_tellAct 0 (0, .aload_n 2, 1) rfl) rfl ?_
  refine x_bipush (v := 21) ⟨by decide, by decide⟩ (dtk dt_X9_tellAct 1 (1, .bipush 21, 2) rfl) ?_
  refine kc_X9_7 rfl (dtk dt_X9_tellAct 2 (3, .invokevirtual 7, 3) rfl) (c_X3_add (G := G) (l := 6) (ln := 60) hl) rfl rfl (wk_6 hO.wf) (fitR (by decide) (by decide)) (Nat.le_of_ble_eq_true rfl) (pqK ?_)
  rw [show addM M 6 21 60 = adL M [21] from rfl]
  refine x_aload_n (dtk dt_X9_tellAct 3 (6, .aload_n 0, 1) rfl) rfl ?_
  refine x_iload_n (dtk dt_X9_tellAct 4 (7, .iload_n 1, 1) rfl) rfl ?_
  refine x_iconst (v := 2) ⟨by decide, by decide⟩ (dtk dt_X9_tellAct 5 (8, .iconst 2, 1) rfl) ?_
  refine w_imul (dtk dt_X9_tellAct 6 (9, .imul, 1) rfl) ?_
  refine x_aload_n (dtk dt_X9_tellAct 7 (10, .aload_n 2, 1) rfl) rfl ?_
  refine kc_X9_17 rfl (dtk dt_X9_tellAct 8 (11, .invokespecial 17, 3) rfl) (c_X4_tellAct_2 (G := G)  (hO.ad [21]) (LN.ad [21] hl)) rfl rfl hO.k hO.c (fitR (by decide) (by decide)) (Nat.le_of_ble_eq_true rfl) (pqK ?_)
  rw [show adL (adL M [21]) [13, 11, 20, 10, 30, 12] = adL M [21, 13, 11, 20, 10, 30, 12] from adL_app _ _ _]
  exact r_i (dtk dt_X9_tellAct 9 (14, .ireturn, 1) rfl) rfl rfl rfl
set_option maxRecDepth 100000 in
set_option maxHeartbeats 1000000 in
theorem c_X4_lookAct_3 {G : GG} {n : Nat} {K : KK} {M : MM} {p x nm m : Int} {d : Int → Int} (hO : OB K M p 10 nm m d) (hl : LN K M 6 60) : MC G mi_X4_lookAct 2 0 0 [(1, p), (0, x), (1, 6)] n K M (PQ (some (0, wr (x + prs m d))) n K (adL M [10])) := by
  refine MC.intro (lc := [(0, (1, p)), (1, (0, x)), (2, (1, 6))]) (by decide) rfl (by simp [Nat.ble]) (Nat.le_of_ble_eq_true rfl) rfl (fun hMR => ?_)
  refine x_aload_n (dtk dt_X4_lookAct 0 (0, .aload_n 2, 1) rfl) rfl ?_
  refine x_bipush (v := 10) ⟨by decide, by decide⟩ (dtk dt_X4_lookAct 1 (1, .bipush 10, 2) rfl) ?_
  refine kc_X4_37 rfl (dtk dt_X4_lookAct 2 (3, .invokevirtual 37, 3) rfl) (c_X3_add (G := G) (l := 6) (ln := 60) hl) rfl rfl (wk_6 hO.wf) (fitR (by decide) (by decide)) (Nat.le_of_ble_eq_true rfl) (pqK ?_)
  rw [show addM M 6 10 60 = adL M [10] from rfl]
  refine x_iload_n (dtk dt_X4_lookAct 3 (6, .iload_n 1, 1) rfl) rfl ?_
  refine x_aload_n (dtk dt_X4_lookAct 4 (7, .aload_n 0, 1) rfl) rfl ?_
  refine fg_X4_18 rfl (dtk dt_X4_lookAct 5 (8, .getfield 18, 3) rfl) hO.k hO.c (hO.ad [10]).pc ?_
  refine w_iadd (dtk dt_X4_lookAct 6 (11, .iadd, 1) rfl) ?_
  exact r_i (dtk dt_X4_lookAct 7 (12, .ireturn, 1) rfl) rfl rfl rfl
set_option maxRecDepth 100000 in
set_option maxHeartbeats 1000000 in
theorem c_X9_lookAct_3 {G : GG} {n : Nat} {K : KK} {M : MM} {p x nm m : Int} {d : Int → Int} (hO : OB K M p 10 nm m d) (hl : LN K M 6 60) : MC G mi_X9_lookAct 3 0 0 [(1, p), (0, x), (1, 6)] n K M (PQ (some (0, wr (wr (x + prs m d) + 1))) n K (adL M [20, 10])) := by
  refine MC.intro (lc := [(0, (1, p)), (1, (0, x)), (2, (1, 6))]) (by decide) rfl (by simp [Nat.ble]) (Nat.le_of_ble_eq_true rfl) rfl (fun hMR => ?_)
  refine x_aload_n (dtk dt_X9_lookAct 0 (0, .aload_n 2, 1) rfl) rfl ?_
  refine x_bipush (v := 20) ⟨by decide, by decide⟩ (dtk dt_X9_lookAct 1 (1, .bipush 20, 2) rfl) ?_
  refine kc_X9_7 rfl (dtk dt_X9_lookAct 2 (3, .invokevirtual 7, 3) rfl) (c_X3_add (G := G) (l := 6) (ln := 60) hl) rfl rfl (wk_6 hO.wf) (fitR (by decide) (by decide)) (Nat.le_of_ble_eq_true rfl) (pqK ?_)
  rw [show addM M 6 20 60 = adL M [20] from rfl]
  refine x_aload_n (dtk dt_X9_lookAct 3 (6, .aload_n 0, 1) rfl) rfl ?_
  refine x_iload_n (dtk dt_X9_lookAct 4 (7, .iload_n 1, 1) rfl) rfl ?_
  refine x_aload_n (dtk dt_X9_lookAct 5 (8, .aload_n 2, 1) rfl) rfl ?_
  refine kc_X9_13 rfl (dtk dt_X9_lookAct 6 (9, .invokespecial 13, 3) rfl) (c_X4_lookAct_3 (G := G)  (hO.ad [20]) (LN.ad [20] hl)) rfl rfl hO.k hO.c (fitR (by decide) (by decide)) (Nat.le_of_ble_eq_true rfl) (pqK ?_)
  rw [show adL (adL M [20]) [10] = adL M [20, 10] from adL_app _ _ _]
  refine x_iconst (v := 1) ⟨by decide, by decide⟩ (dtk dt_X9_lookAct 7 (12, .iconst 1, 1) rfl) ?_
  refine w_iadd (dtk dt_X9_lookAct 8 (13, .iadd, 1) rfl) ?_
  exact r_i (dtk dt_X9_lookAct 9 (14, .ireturn, 1) rfl) rfl rfl rfl
set_option maxRecDepth 100000 in
set_option maxHeartbeats 1000000 in
theorem c_X4_partAct_3 {G : GG} {n : Nat} {K : KK} {M : MM} {p x nm m : Int} {d : Int → Int} (hO : OB K M p 10 nm m d) (hl : LN K M 6 60) : MC G mi_X4_partAct 4 0 0 [(1, p), (0, x), (1, 6)] n K M (PQ (some (0, wr (wr (wr (x + prs m d) + 1) * m))) n K (adL M [11, 20, 10])) := by
  refine MC.intro (lc := [(0, (1, p)), (1, (0, x)), (2, (1, 6))]) (by decide) rfl (by simp [Nat.ble]) (Nat.le_of_ble_eq_true rfl) rfl (fun hMR => ?_)
  refine x_aload_n (dtk dt_X4_partAct 0 (0, .aload_n 2, 1) rfl) rfl ?_
  refine x_bipush (v := 11) ⟨by decide, by decide⟩ (dtk dt_X4_partAct 1 (1, .bipush 11, 2) rfl) ?_
  refine kc_X4_37 rfl (dtk dt_X4_partAct 2 (3, .invokevirtual 37, 3) rfl) (c_X3_add (G := G) (l := 6) (ln := 60) hl) rfl rfl (wk_6 hO.wf) (fitR (by decide) (by decide)) (Nat.le_of_ble_eq_true rfl) (pqK ?_)
  rw [show addM M 6 11 60 = adL M [11] from rfl]
  refine x_aload_n (dtk dt_X4_partAct 3 (6, .aload_n 0, 1) rfl) rfl ?_
  refine x_iload_n (dtk dt_X4_partAct 4 (7, .iload_n 1, 1) rfl) rfl ?_
  refine x_aload_n (dtk dt_X4_partAct 5 (8, .aload_n 2, 1) rfl) rfl ?_
  refine kc_X4_43_X10 rfl (dtk dt_X4_partAct 6 (9, .invokevirtual 43, 3) rfl) (c_X9_lookAct_3 (G := G)  (hO.ad [11]) (LN.ad [11] hl)) rfl rfl hO.k (fitR (by decide) (by decide)) (Nat.le_of_ble_eq_true rfl) (pqK ?_)
  rw [show adL (adL M [11]) [20, 10] = adL M [11, 20, 10] from adL_app _ _ _]
  refine x_aload_n (dtk dt_X4_partAct 7 (12, .aload_n 0, 1) rfl) rfl ?_
  refine fg_X4_34 rfl (dtk dt_X4_partAct 8 (13, .getfield 34, 3) rfl) hO.k hO.c (hO.ad [11, 20, 10]).n ?_
  refine w_imul (dtk dt_X4_partAct 9 (16, .imul, 1) rfl) ?_
  exact r_i (dtk dt_X4_partAct 10 (17, .ireturn, 1) rfl) rfl rfl rfl
set_option maxRecDepth 100000 in
set_option maxHeartbeats 1000000 in
theorem c_X10_partAct_3 {G : GG} {n : Nat} {K : KK} {M : MM} {p x nm m : Int} {d : Int → Int} (hO : OB K M p 10 nm m d) (hl : LN K M 6 60) : MC G mi_X10_partAct 5 0 0 [(1, p), (0, x), (1, 6)] n K M (PQ (some (0, wr (wr (wr (wr (x + prs m d) + 1) * m) - prs m d))) n K (adL M [40, 11, 20, 10])) := by
  refine MC.intro (lc := [(0, (1, p)), (1, (0, x)), (2, (1, 6))]) (by decide) rfl (by simp [Nat.ble]) (Nat.le_of_ble_eq_true rfl) rfl (fun hMR => ?_)
  refine x_aload_n (dtk dt_X10_partAct 0 (0, .aload_n 2, 1) rfl) rfl ?_
  refine x_bipush (v := 40) ⟨by decide, by decide⟩ (dtk dt_X10_partAct 1 (1, .bipush 40, 2) rfl) ?_
  refine kc_X10_7 rfl (dtk dt_X10_partAct 2 (3, .invokevirtual 7, 3) rfl) (c_X3_add (G := G) (l := 6) (ln := 60) hl) rfl rfl (wk_6 hO.wf) (fitR (by decide) (by decide)) (Nat.le_of_ble_eq_true rfl) (pqK ?_)
  rw [show addM M 6 40 60 = adL M [40] from rfl]
  refine x_aload_n (dtk dt_X10_partAct 3 (6, .aload_n 0, 1) rfl) rfl ?_
  refine x_iload_n (dtk dt_X10_partAct 4 (7, .iload_n 1, 1) rfl) rfl ?_
  refine x_aload_n (dtk dt_X10_partAct 5 (8, .aload_n 2, 1) rfl) rfl ?_
  refine kc_X10_13 rfl (dtk dt_X10_partAct 6 (9, .invokespecial 13, 3) rfl) (c_X4_partAct_3 (G := G)  (hO.ad [40]) (LN.ad [40] hl)) rfl rfl hO.k hO.c (fitR (by decide) (by decide)) (Nat.le_of_ble_eq_true rfl) (pqK ?_)
  rw [show adL (adL M [40]) [11, 20, 10] = adL M [40, 11, 20, 10] from adL_app _ _ _]
  refine x_aload_n (dtk dt_X10_partAct 7 (12, .aload_n 0, 1) rfl) rfl ?_
  refine fg_X10_17 rfl (dtk dt_X10_partAct 8 (13, .getfield 17, 3) rfl) hO.k (hO.ad [40, 11, 20, 10]).pc ?_
  refine w_isub (dtk dt_X10_partAct 9 (16, .isub, 1) rfl) ?_
  exact r_i (dtk dt_X10_partAct 10 (17, .ireturn, 1) rfl) rfl rfl rfl
set_option maxRecDepth 100000 in
set_option maxHeartbeats 1000000 in
theorem c_X4_joinAct_3 {G : GG} {n : Nat} {K : KK} {M : MM} {p x nm m : Int} {d : Int → Int} (hO : OB K M p 10 nm m d) (hl : LN K M 6 60) : MC G mi_X4_joinAct 2 0 0 [(1, p), (0, x), (1, 6)] n K M (PQ (some (0, wr (x - nm))) n K (adL M [12])) := by
  refine MC.intro (lc := [(0, (1, p)), (1, (0, x)), (2, (1, 6))]) (by decide) rfl (by simp [Nat.ble]) (Nat.le_of_ble_eq_true rfl) rfl (fun hMR => ?_)
  refine x_aload_n (dtk dt_X4_joinAct 0 (0, .aload_n 2, 1) rfl) rfl ?_
  refine x_bipush (v := 12) ⟨by decide, by decide⟩ (dtk dt_X4_joinAct 1 (1, .bipush 12, 2) rfl) ?_
  refine kc_X4_37 rfl (dtk dt_X4_joinAct 2 (3, .invokevirtual 37, 3) rfl) (c_X3_add (G := G) (l := 6) (ln := 60) hl) rfl rfl (wk_6 hO.wf) (fitR (by decide) (by decide)) (Nat.le_of_ble_eq_true rfl) (pqK ?_)
  rw [show addM M 6 12 60 = adL M [12] from rfl]
  refine x_iload_n (dtk dt_X4_joinAct 3 (6, .iload_n 1, 1) rfl) rfl ?_
  refine x_aload_n (dtk dt_X4_joinAct 4 (7, .aload_n 0, 1) rfl) rfl ?_
  refine fg_X4_22 rfl (dtk dt_X4_joinAct 5 (8, .getfield 22, 3) rfl) hO.k hO.c (hO.ad [12]).num ?_
  refine w_isub (dtk dt_X4_joinAct 6 (11, .isub, 1) rfl) ?_
  exact r_i (dtk dt_X4_joinAct 7 (12, .ireturn, 1) rfl) rfl rfl rfl
set_option maxRecDepth 100000 in
set_option maxHeartbeats 1000000 in
theorem c_X0_joinAct_3 {G : GG} {n : Nat} {K : KK} {M : MM} {p x nm m : Int} {d : Int → Int} (hO : OB K M p 10 nm m d) (hl : LN K M 6 60) : MC G mi_X0_joinAct 3 0 0 [(1, p), (0, x), (1, 6)] n K M (PQ (some (0, wr (wr (x - nm) * 3))) n K (adL M [30, 12])) := by
  refine MC.intro (lc := [(0, (1, p)), (1, (0, x)), (2, (1, 6))]) (by decide) rfl (by simp [Nat.ble]) (Nat.le_of_ble_eq_true rfl) rfl (fun hMR => ?_)
  refine x_aload_n (dtk dt_X0_joinAct 0 (0, .aload_n 2, 1) rfl) rfl ?_
  refine x_bipush (v := 30) ⟨by decide, by decide⟩ (dtk dt_X0_joinAct 1 (1, .bipush 30, 2) rfl) ?_
  refine kc_X0_7 rfl (dtk dt_X0_joinAct 2 (3, .invokevirtual 7, 3) rfl) (c_X3_add (G := G) (l := 6) (ln := 60) hl) rfl rfl (wk_6 hO.wf) (fitR (by decide) (by decide)) (Nat.le_of_ble_eq_true rfl) (pqK ?_)
  rw [show addM M 6 30 60 = adL M [30] from rfl]
  refine x_aload_n (dtk dt_X0_joinAct 3 (6, .aload_n 0, 1) rfl) rfl ?_
  refine x_iload_n (dtk dt_X0_joinAct 4 (7, .iload_n 1, 1) rfl) rfl ?_
  refine x_aload_n (dtk dt_X0_joinAct 5 (8, .aload_n 2, 1) rfl) rfl ?_
  refine kc_X0_13 rfl (dtk dt_X0_joinAct 6 (9, .invokespecial 13, 3) rfl) (c_X4_joinAct_3 (G := G)  (hO.ad [30]) (LN.ad [30] hl)) rfl rfl hO.k hO.c (fitR (by decide) (by decide)) (Nat.le_of_ble_eq_true rfl) (pqK ?_)
  rw [show adL (adL M [30]) [12] = adL M [30, 12] from adL_app _ _ _]
  refine x_iconst (v := 3) ⟨by decide, by decide⟩ (dtk dt_X0_joinAct 7 (12, .iconst 3, 1) rfl) ?_
  refine w_imul (dtk dt_X0_joinAct 8 (13, .imul, 1) rfl) ?_
  exact r_i (dtk dt_X0_joinAct 9 (14, .ireturn, 1) rfl) rfl rfl rfl
set_option maxRecDepth 100000 in
set_option maxHeartbeats 1000000 in
theorem c_X10_joinAct_3 {G : GG} {n : Nat} {K : KK} {M : MM} {p x nm m : Int} {d : Int → Int} (hO : OB K M p 10 nm m d) (hl : LN K M 6 60) : MC G mi_X10_joinAct 4 0 0 [(1, p), (0, x), (1, 6)] n K M (PQ (some (0, wr (wr (wr (x - nm) * 3) + wr (wr (x + prs m d) + 1)))) n K (adL M [41, 30, 12, 20, 10])) := by
  refine MC.intro (lc := [(0, (1, p)), (1, (0, x)), (2, (1, 6))]) (by decide) rfl (by simp [Nat.ble]) (Nat.le_of_ble_eq_true rfl) rfl (fun hMR => ?_)
  refine x_aload_n (dtk dt_X10_joinAct 0 (0, .aload_n 2, 1) rfl) rfl ?_
  refine x_bipush (v := 41) ⟨by decide, by decide⟩ (dtk dt_X10_joinAct 1 (1, .bipush 41, 2) rfl) ?_
  refine kc_X10_7 rfl (dtk dt_X10_joinAct 2 (3, .invokevirtual 7, 3) rfl) (c_X3_add (G := G) (l := 6) (ln := 60) hl) rfl rfl (wk_6 hO.wf) (fitR (by decide) (by decide)) (Nat.le_of_ble_eq_true rfl) (pqK ?_)
  rw [show addM M 6 41 60 = adL M [41] from rfl]
  refine x_aload_n (dtk dt_X10_joinAct 3 (6, .aload_n 0, 1) rfl) rfl ?_
  refine x_iload_n (dtk dt_X10_joinAct 4 (7, .iload_n 1, 1) rfl) rfl ?_
  refine x_aload_n (dtk dt_X10_joinAct 5 (8, .aload_n 2, 1) rfl) rfl ?_
  refine kc_X10_23 rfl (dtk dt_X10_joinAct 6 (9, .invokespecial 23, 3) rfl) (c_X0_joinAct_3 (G := G)  (hO.ad [41]) (LN.ad [41] hl)) rfl rfl hO.k hO.c (fitR (by decide) (by decide)) (Nat.le_of_ble_eq_true rfl) (pqK ?_)
  rw [show adL (adL M [41]) [30, 12] = adL M [41, 30, 12] from adL_app _ _ _]
  refine x_aload_n (dtk dt_X10_joinAct 7 (12, .aload_n 0, 1) rfl) rfl ?_
  refine x_iload_n (dtk dt_X10_joinAct 8 (13, .iload_n 1, 1) rfl) rfl ?_
  refine x_aload_n (dtk dt_X10_joinAct 9 (14, .aload_n 2, 1) rfl) rfl ?_
  refine kc_X10_26 rfl (dtk dt_X10_joinAct 10 (15, .invokespecial 26, 3) rfl) (c_X9_lookAct_3 (G := G)  (hO.ad [41, 30, 12]) (LN.ad [41, 30, 12] hl)) rfl rfl hO.k hO.c (fitR (by decide) (by decide)) (Nat.le_of_ble_eq_true rfl) (pqK ?_)
  rw [show adL (adL M [41, 30, 12]) [20, 10] = adL M [41, 30, 12, 20, 10] from adL_app _ _ _]
  refine w_iadd (dtk dt_X10_joinAct 11 (18, .iadd, 1) rfl) ?_
  exact r_i (dtk dt_X10_joinAct 12 (19, .ireturn, 1) rfl) rfl rfl rfl
set_option maxRecDepth 100000 in
set_option maxHeartbeats 1000000 in
theorem c_X4_tellAct_3 {G : GG} {n : Nat} {K : KK} {M : MM} {p x nm m : Int} {d : Int → Int} (hO : OB K M p 10 nm m d) (hl : LN K M 6 60) : MC G mi_X4_tellAct 6 0 0 [(1, p), (0, x), (1, 6)] n K M (PQ (some (0, zxor (wr (wr (wr (wr (x + prs m d) + 1) * m) - prs m d)) (wr (wr (wr (x - nm) * 3) + wr (wr (x + prs m d) + 1))))) n K (adL M [13, 40, 11, 20, 10, 41, 30, 12, 20, 10])) := by
  refine MC.intro (lc := [(0, (1, p)), (1, (0, x)), (2, (1, 6))]) (by decide) rfl (by simp [Nat.ble]) (Nat.le_of_ble_eq_true rfl) rfl (fun hMR => ?_)
  refine x_aload_n (dtk dt_X4_tellAct 0 (0, .aload_n 2, 1) rfl) rfl ?_
  refine x_bipush (v := 13) ⟨by decide, by decide⟩ (dtk dt_X4_tellAct 1 (1, .bipush 13, 2) rfl) ?_
  refine kc_X4_37 rfl (dtk dt_X4_tellAct 2 (3, .invokevirtual 37, 3) rfl) (c_X3_add (G := G) (l := 6) (ln := 60) hl) rfl rfl (wk_6 hO.wf) (fitR (by decide) (by decide)) (Nat.le_of_ble_eq_true rfl) (pqK ?_)
  rw [show addM M 6 13 60 = adL M [13] from rfl]
  refine x_aload_n (dtk dt_X4_tellAct 3 (6, .aload_n 0, 1) rfl) rfl ?_
  refine x_iload_n (dtk dt_X4_tellAct 4 (7, .iload_n 1, 1) rfl) rfl ?_
  refine x_aload_n (dtk dt_X4_tellAct 5 (8, .aload_n 2, 1) rfl) rfl ?_
  refine kc_X4_47_X10 rfl (dtk dt_X4_tellAct 6 (9, .invokevirtual 47, 3) rfl) (c_X10_partAct_3 (G := G)  (hO.ad [13]) (LN.ad [13] hl)) rfl rfl hO.k (fitR (by decide) (by decide)) (Nat.le_of_ble_eq_true rfl) (pqK ?_)
  rw [show adL (adL M [13]) [40, 11, 20, 10] = adL M [13, 40, 11, 20, 10] from adL_app _ _ _]
  refine x_aload_n (dtk dt_X4_tellAct 7 (12, .aload_n 0, 1) rfl) rfl ?_
  refine x_iload_n (dtk dt_X4_tellAct 8 (13, .iload_n 1, 1) rfl) rfl ?_
  refine x_aload_n (dtk dt_X4_tellAct 9 (14, .aload_n 2, 1) rfl) rfl ?_
  refine kc_X4_50_X10 rfl (dtk dt_X4_tellAct 10 (15, .invokevirtual 50, 3) rfl) (c_X10_joinAct_3 (G := G)  (hO.ad [13, 40, 11, 20, 10]) (LN.ad [13, 40, 11, 20, 10] hl)) rfl rfl hO.k (fitR (by decide) (by decide)) (Nat.le_of_ble_eq_true rfl) (pqK ?_)
  rw [show adL (adL M [13, 40, 11, 20, 10]) [41, 30, 12, 20, 10] = adL M [13, 40, 11, 20, 10, 41, 30, 12, 20, 10] from adL_app _ _ _]
  refine x_ixor (dtk dt_X4_tellAct 11 (18, .ixor, 1) rfl) ?_
  exact r_i (dtk dt_X4_tellAct 12 (19, .ireturn, 1) rfl) rfl rfl rfl
set_option maxRecDepth 100000 in
set_option maxHeartbeats 1000000 in
theorem c_X9_tellAct_3 {G : GG} {n : Nat} {K : KK} {M : MM} {p x nm m : Int} {d : Int → Int} (hO : OB K M p 10 nm m d) (hl : LN K M 6 60) : MC G mi_X9_tellAct 7 0 0 [(1, p), (0, x), (1, 6)] n K M (PQ (some (0, zxor (wr (wr (wr (wr ((wr (x * 2)) + prs m d) + 1) * m) - prs m d)) (wr (wr (wr ((wr (x * 2)) - nm) * 3) + wr (wr ((wr (x * 2)) + prs m d) + 1))))) n K (adL M [21, 13, 40, 11, 20, 10, 41, 30, 12, 20, 10])) := by
  refine MC.intro (lc := [(0, (1, p)), (1, (0, x)), (2, (1, 6))]) (by decide) rfl (by simp [Nat.ble]) (Nat.le_of_ble_eq_true rfl) rfl (fun hMR => ?_)
  refine x_aload_n (dtk dt_X9_tellAct 0 (0, .aload_n 2, 1) rfl) rfl ?_
  refine x_bipush (v := 21) ⟨by decide, by decide⟩ (dtk dt_X9_tellAct 1 (1, .bipush 21, 2) rfl) ?_
  refine kc_X9_7 rfl (dtk dt_X9_tellAct 2 (3, .invokevirtual 7, 3) rfl) (c_X3_add (G := G) (l := 6) (ln := 60) hl) rfl rfl (wk_6 hO.wf) (fitR (by decide) (by decide)) (Nat.le_of_ble_eq_true rfl) (pqK ?_)
  rw [show addM M 6 21 60 = adL M [21] from rfl]
  refine x_aload_n (dtk dt_X9_tellAct 3 (6, .aload_n 0, 1) rfl) rfl ?_
  refine x_iload_n (dtk dt_X9_tellAct 4 (7, .iload_n 1, 1) rfl) rfl ?_
  refine x_iconst (v := 2) ⟨by decide, by decide⟩ (dtk dt_X9_tellAct 5 (8, .iconst 2, 1) rfl) ?_
  refine w_imul (dtk dt_X9_tellAct 6 (9, .imul, 1) rfl) ?_
  refine x_aload_n (dtk dt_X9_tellAct 7 (10, .aload_n 2, 1) rfl) rfl ?_
  refine kc_X9_17 rfl (dtk dt_X9_tellAct 8 (11, .invokespecial 17, 3) rfl) (c_X4_tellAct_3 (G := G)  (hO.ad [21]) (LN.ad [21] hl)) rfl rfl hO.k hO.c (fitR (by decide) (by decide)) (Nat.le_of_ble_eq_true rfl) (pqK ?_)
  rw [show adL (adL M [21]) [13, 40, 11, 20, 10, 41, 30, 12, 20, 10] = adL M [21, 13, 40, 11, 20, 10, 41, 30, 12, 20, 10] from adL_app _ _ _]
  exact r_i (dtk dt_X9_tellAct 9 (14, .ireturn, 1) rfl) rfl rfl rfl
set_option maxRecDepth 100000 in
set_option maxHeartbeats 1000000 in
theorem c_X4_lookAct_4 {G : GG} {n : Nat} {K : KK} {M : MM} {p x nm m : Int} {d : Int → Int} (hO : OB K M p 2 nm m d) (hl : LN K M 6 60) : MC G mi_X4_lookAct 2 0 0 [(1, p), (0, x), (1, 6)] n K M (PQ (some (0, wr (x + prs m d))) n K (adL M [10])) := by
  refine MC.intro (lc := [(0, (1, p)), (1, (0, x)), (2, (1, 6))]) (by decide) rfl (by simp [Nat.ble]) (Nat.le_of_ble_eq_true rfl) rfl (fun hMR => ?_)
  refine x_aload_n (dtk dt_X4_lookAct 0 (0, .aload_n 2, 1) rfl) rfl ?_
  refine x_bipush (v := 10) ⟨by decide, by decide⟩ (dtk dt_X4_lookAct 1 (1, .bipush 10, 2) rfl) ?_
  refine kc_X4_37 rfl (dtk dt_X4_lookAct 2 (3, .invokevirtual 37, 3) rfl) (c_X3_add (G := G) (l := 6) (ln := 60) hl) rfl rfl (wk_6 hO.wf) (fitR (by decide) (by decide)) (Nat.le_of_ble_eq_true rfl) (pqK ?_)
  rw [show addM M 6 10 60 = adL M [10] from rfl]
  refine x_iload_n (dtk dt_X4_lookAct 3 (6, .iload_n 1, 1) rfl) rfl ?_
  refine x_aload_n (dtk dt_X4_lookAct 4 (7, .aload_n 0, 1) rfl) rfl ?_
  refine fg_X4_18 rfl (dtk dt_X4_lookAct 5 (8, .getfield 18, 3) rfl) hO.k hO.c (hO.ad [10]).pc ?_
  refine w_iadd (dtk dt_X4_lookAct 6 (11, .iadd, 1) rfl) ?_
  exact r_i (dtk dt_X4_lookAct 7 (12, .ireturn, 1) rfl) rfl rfl rfl
set_option maxRecDepth 100000 in
set_option maxHeartbeats 1000000 in
theorem c_X2_lookAct_4 {G : GG} {n : Nat} {K : KK} {M : MM} {p x nm m : Int} {d : Int → Int} (hO : OB K M p 2 nm m d) (hl : LN K M 6 60) : MC G mi_X2_lookAct 3 0 0 [(1, p), (0, x), (1, 6)] n K M (PQ (some (0, wr ((wr (x - m)) + prs m d))) n K (adL M [50, 10])) := by
  refine MC.intro (lc := [(0, (1, p)), (1, (0, x)), (2, (1, 6))]) (by decide) rfl (by simp [Nat.ble]) (Nat.le_of_ble_eq_true rfl) rfl (fun hMR => ?_)
  refine x_aload_n (dtk dt_X2_lookAct 0 (0, .aload_n 2, 1) rfl) rfl ?_
  refine x_bipush (v := 50) ⟨by decide, by decide⟩ (dtk dt_X2_lookAct 1 (1, .bipush 50, 2) rfl) ?_
  refine kc_X2_7 rfl (dtk dt_X2_lookAct 2 (3, .invokevirtual 7, 3) rfl) (c_X3_add (G := G) (l := 6) (ln := 60) hl) rfl rfl (wk_6 hO.wf) (fitR (by decide) (by decide)) (Nat.le_of_ble_eq_true rfl) (pqK ?_)
  rw [show addM M 6 50 60 = adL M [50] from rfl]
  refine x_aload_n (dtk dt_X2_lookAct 3 (6, .aload_n 0, 1) rfl) rfl ?_
  refine x_iload_n (dtk dt_X2_lookAct 4 (7, .iload_n 1, 1) rfl) rfl ?_
  refine x_aload_n (dtk dt_X2_lookAct 5 (8, .aload_n 0, 1) rfl) rfl ?_
  refine fg_X2_13 rfl (dtk dt_X2_lookAct 6 (9, .getfield 13, 3) rfl) hO.k (hO.ad [50]).n ?_
  refine w_isub (dtk dt_X2_lookAct 7 (12, .isub, 1) rfl) ?_
  refine x_aload_n (dtk dt_X2_lookAct 8 (13, .aload_n 2, 1) rfl) rfl ?_
  refine kc_X2_19 rfl (dtk dt_X2_lookAct 9 (14, .invokespecial 19, 3) rfl) (c_X4_lookAct_4 (G := G)  (hO.ad [50]) (LN.ad [50] hl)) rfl rfl hO.k hO.c (fitR (by decide) (by decide)) (Nat.le_of_ble_eq_true rfl) (pqK ?_)
  rw [show adL (adL M [50]) [10] = adL M [50, 10] from adL_app _ _ _]
  exact r_i (dtk dt_X2_lookAct 10 (17, .ireturn, 1) rfl) rfl rfl rfl
set_option maxRecDepth 100000 in
set_option maxHeartbeats 1000000 in
theorem c_X4_partAct_4 {G : GG} {n : Nat} {K : KK} {M : MM} {p x nm m : Int} {d : Int → Int} (hO : OB K M p 2 nm m d) (hl : LN K M 6 60) : MC G mi_X4_partAct 4 0 0 [(1, p), (0, x), (1, 6)] n K M (PQ (some (0, wr (wr ((wr (x - m)) + prs m d) * m))) n K (adL M [11, 50, 10])) := by
  refine MC.intro (lc := [(0, (1, p)), (1, (0, x)), (2, (1, 6))]) (by decide) rfl (by simp [Nat.ble]) (Nat.le_of_ble_eq_true rfl) rfl (fun hMR => ?_)
  refine x_aload_n (dtk dt_X4_partAct 0 (0, .aload_n 2, 1) rfl) rfl ?_
  refine x_bipush (v := 11) ⟨by decide, by decide⟩ (dtk dt_X4_partAct 1 (1, .bipush 11, 2) rfl) ?_
  refine kc_X4_37 rfl (dtk dt_X4_partAct 2 (3, .invokevirtual 37, 3) rfl) (c_X3_add (G := G) (l := 6) (ln := 60) hl) rfl rfl (wk_6 hO.wf) (fitR (by decide) (by decide)) (Nat.le_of_ble_eq_true rfl) (pqK ?_)
  rw [show addM M 6 11 60 = adL M [11] from rfl]
  refine x_aload_n (dtk dt_X4_partAct 3 (6, .aload_n 0, 1) rfl) rfl ?_
  refine x_iload_n (dtk dt_X4_partAct 4 (7, .iload_n 1, 1) rfl) rfl ?_
  refine x_aload_n (dtk dt_X4_partAct 5 (8, .aload_n 2, 1) rfl) rfl ?_
  refine kc_X4_43_X2 rfl (dtk dt_X4_partAct 6 (9, .invokevirtual 43, 3) rfl) (c_X2_lookAct_4 (G := G)  (hO.ad [11]) (LN.ad [11] hl)) rfl rfl hO.k (fitR (by decide) (by decide)) (Nat.le_of_ble_eq_true rfl) (pqK ?_)
  rw [show adL (adL M [11]) [50, 10] = adL M [11, 50, 10] from adL_app _ _ _]
  refine x_aload_n (dtk dt_X4_partAct 7 (12, .aload_n 0, 1) rfl) rfl ?_
  refine fg_X4_34 rfl (dtk dt_X4_partAct 8 (13, .getfield 34, 3) rfl) hO.k hO.c (hO.ad [11, 50, 10]).n ?_
  refine w_imul (dtk dt_X4_partAct 9 (16, .imul, 1) rfl) ?_
  exact r_i (dtk dt_X4_partAct 10 (17, .ireturn, 1) rfl) rfl rfl rfl
set_option maxRecDepth 100000 in
set_option maxHeartbeats 1000000 in
theorem c_X4_joinAct_4 {G : GG} {n : Nat} {K : KK} {M : MM} {p x nm m : Int} {d : Int → Int} (hO : OB K M p 2 nm m d) (hl : LN K M 6 60) : MC G mi_X4_joinAct 2 0 0 [(1, p), (0, x), (1, 6)] n K M (PQ (some (0, wr (x - nm))) n K (adL M [12])) := by
  refine MC.intro (lc := [(0, (1, p)), (1, (0, x)), (2, (1, 6))]) (by decide) rfl (by simp [Nat.ble]) (Nat.le_of_ble_eq_true rfl) rfl (fun hMR => ?_)
  refine x_aload_n (dtk dt_X4_joinAct 0 (0, .aload_n 2, 1) rfl) rfl ?_
  refine x_bipush (v := 12) ⟨by decide, by decide⟩ (dtk dt_X4_joinAct 1 (1, .bipush 12, 2) rfl) ?_
  refine kc_X4_37 rfl (dtk dt_X4_joinAct 2 (3, .invokevirtual 37, 3) rfl) (c_X3_add (G := G) (l := 6) (ln := 60) hl) rfl rfl (wk_6 hO.wf) (fitR (by decide) (by decide)) (Nat.le_of_ble_eq_true rfl) (pqK ?_)
  rw [show addM M 6 12 60 = adL M [12] from rfl]
  refine x_iload_n (dtk dt_X4_joinAct 3 (6, .iload_n 1, 1) rfl) rfl ?_
  refine x_aload_n (dtk dt_X4_joinAct 4 (7, .aload_n 0, 1) rfl) rfl ?_
  refine fg_X4_22 rfl (dtk dt_X4_joinAct 5 (8, .getfield 22, 3) rfl) hO.k hO.c (hO.ad [12]).num ?_
  refine w_isub (dtk dt_X4_joinAct 6 (11, .isub, 1) rfl) ?_
  exact r_i (dtk dt_X4_joinAct 7 (12, .ireturn, 1) rfl) rfl rfl rfl
set_option maxRecDepth 100000 in
set_option maxHeartbeats 1000000 in
theorem c_X4_tellAct_4 {G : GG} {n : Nat} {K : KK} {M : MM} {p x nm m : Int} {d : Int → Int} (hO : OB K M p 2 nm m d) (hl : LN K M 6 60) : MC G mi_X4_tellAct 5 0 0 [(1, p), (0, x), (1, 6)] n K M (PQ (some (0, zxor (wr (wr ((wr (x - m)) + prs m d) * m)) (wr (x - nm)))) n K (adL M [13, 11, 50, 10, 12])) := by
  refine MC.intro (lc := [(0, (1, p)), (1, (0, x)), (2, (1, 6))]) (by decide) rfl (by simp [Nat.ble]) (Nat.le_of_ble_eq_true rfl) rfl (fun hMR => ?_)
  refine x_aload_n (dtk dt_X4_tellAct 0 (0, .aload_n 2, 1) rfl) rfl ?_
  refine x_bipush (v := 13) ⟨by decide, by decide⟩ (dtk dt_X4_tellAct 1 (1, .bipush 13, 2) rfl) ?_
  refine kc_X4_37 rfl (dtk dt_X4_tellAct 2 (3, .invokevirtual 37, 3) rfl) (c_X3_add (G := G) (l := 6) (ln := 60) hl) rfl rfl (wk_6 hO.wf) (fitR (by decide) (by decide)) (Nat.le_of_ble_eq_true rfl) (pqK ?_)
  rw [show addM M 6 13 60 = adL M [13] from rfl]
  refine x_aload_n (dtk dt_X4_tellAct 3 (6, .aload_n 0, 1) rfl) rfl ?_
  refine x_iload_n (dtk dt_X4_tellAct 4 (7, .iload_n 1, 1) rfl) rfl ?_
  refine x_aload_n (dtk dt_X4_tellAct 5 (8, .aload_n 2, 1) rfl) rfl ?_
  refine kc_X4_47_X2 rfl (dtk dt_X4_tellAct 6 (9, .invokevirtual 47, 3) rfl) (c_X4_partAct_4 (G := G)  (hO.ad [13]) (LN.ad [13] hl)) rfl rfl hO.k (fitR (by decide) (by decide)) (Nat.le_of_ble_eq_true rfl) (pqK ?_)
  rw [show adL (adL M [13]) [11, 50, 10] = adL M [13, 11, 50, 10] from adL_app _ _ _]
  refine x_aload_n (dtk dt_X4_tellAct 7 (12, .aload_n 0, 1) rfl) rfl ?_
  refine x_iload_n (dtk dt_X4_tellAct 8 (13, .iload_n 1, 1) rfl) rfl ?_
  refine x_aload_n (dtk dt_X4_tellAct 9 (14, .aload_n 2, 1) rfl) rfl ?_
  refine kc_X4_50_X2 rfl (dtk dt_X4_tellAct 10 (15, .invokevirtual 50, 3) rfl) (c_X4_joinAct_4 (G := G)  (hO.ad [13, 11, 50, 10]) (LN.ad [13, 11, 50, 10] hl)) rfl rfl hO.k (fitR (by decide) (by decide)) (Nat.le_of_ble_eq_true rfl) (pqK ?_)
  rw [show adL (adL M [13, 11, 50, 10]) [12] = adL M [13, 11, 50, 10, 12] from adL_app _ _ _]
  refine x_ixor (dtk dt_X4_tellAct 11 (18, .ixor, 1) rfl) ?_
  exact r_i (dtk dt_X4_tellAct 12 (19, .ireturn, 1) rfl) rfl rfl rfl
set_option maxRecDepth 100000 in
set_option maxHeartbeats 1000000 in
theorem c_X2_tellAct_4 {G : GG} {n : Nat} {K : KK} {M : MM} {p x nm m : Int} {d : Int → Int} (hO : OB K M p 2 nm m d) (hl : LN K M 6 60) : MC G mi_X2_tellAct 6 0 0 [(1, p), (0, x), (1, 6)] n K M (PQ (some (0, wr (wr (x - nm) + zxor (wr (wr ((wr (x - m)) + prs m d) * m)) (wr (x - nm))))) n K (adL M [51, 12, 13, 11, 50, 10, 12])) := by
  refine MC.intro (lc := [(0, (1, p)), (1, (0, x)), (2, (1, 6))]) (by decide) rfl (by simp [Nat.ble]) (Nat.le_of_ble_eq_true rfl) rfl (fun hMR => ?_)
  refine x_aload_n (dtk dt_X2_tellAct 0 (0, .aload_n 2, 1) rfl) rfl ?_
  refine x_bipush (v := 51) ⟨by decide, by decide⟩ (dtk dt_X2_tellAct 1 (1, .bipush 51, 2) rfl) ?_
  refine kc_X2_7 rfl (dtk dt_X2_tellAct 2 (3, .invokevirtual 7, 3) rfl) (c_X3_add (G := G) (l := 6) (ln := 60) hl) rfl rfl (wk_6 hO.wf) (fitR (by decide) (by decide)) (Nat.le_of_ble_eq_true rfl) (pqK ?_)
  rw [show addM M 6 51 60 = adL M [51] from rfl]
  refine x_aload_n (dtk dt_X2_tellAct 3 (6, .aload_n 0, 1) rfl) rfl ?_
  refine x_iload_n (dtk dt_X2_tellAct 4 (7, .iload_n 1, 1) rfl) rfl ?_
  refine x_aload_n (dtk dt_X2_tellAct 5 (8, .aload_n 2, 1) rfl) rfl ?_
  refine kc_X2_23_X2 rfl (dtk dt_X2_tellAct 6 (9, .invokevirtual 23, 3) rfl) (c_X4_joinAct_4 (G := G)  (hO.ad [51]) (LN.ad [51] hl)) rfl rfl hO.k (fitR (by decide) (by decide)) (Nat.le_of_ble_eq_true rfl) (pqK ?_)
  rw [show adL (adL M [51]) [12] = adL M [51, 12] from adL_app _ _ _]
  refine x_aload_n (dtk dt_X2_tellAct 7 (12, .aload_n 0, 1) rfl) rfl ?_
  refine x_iload_n (dtk dt_X2_tellAct 8 (13, .iload_n 1, 1) rfl) rfl ?_
  refine x_aload_n (dtk dt_X2_tellAct 9 (14, .aload_n 2, 1) rfl) rfl ?_
  refine kc_X2_26 rfl (dtk dt_X2_tellAct 10 (15, .invokespecial 26, 3) rfl) (c_X4_tellAct_4 (G := G)  (hO.ad [51, 12]) (LN.ad [51, 12] hl)) rfl rfl hO.k hO.c (fitR (by decide) (by decide)) (Nat.le_of_ble_eq_true rfl) (pqK ?_)
  rw [show adL (adL M [51, 12]) [13, 11, 50, 10, 12] = adL M [51, 12, 13, 11, 50, 10, 12] from adL_app _ _ _]
  refine w_iadd (dtk dt_X2_tellAct 11 (18, .iadd, 1) rfl) ?_
  exact r_i (dtk dt_X2_tellAct 12 (19, .ireturn, 1) rfl) rfl rfl rfl
set_option maxRecDepth 100000 in
set_option maxHeartbeats 1000000 in
theorem c_X4_lookAct_5 {G : GG} {n : Nat} {K : KK} {M : MM} {p x nm m : Int} {d : Int → Int} (hO : OB K M p 5 nm m d) (hl : LN K M 6 60) : MC G mi_X4_lookAct 2 0 0 [(1, p), (0, x), (1, 6)] n K M (PQ (some (0, wr (x + prs m d))) n K (adL M [10])) := by
  refine MC.intro (lc := [(0, (1, p)), (1, (0, x)), (2, (1, 6))]) (by decide) rfl (by simp [Nat.ble]) (Nat.le_of_ble_eq_true rfl) rfl (fun hMR => ?_)
  refine x_aload_n (dtk dt_X4_lookAct 0 (0, .aload_n 2, 1) rfl) rfl ?_
  refine x_bipush (v := 10) ⟨by decide, by decide⟩ (dtk dt_X4_lookAct 1 (1, .bipush 10, 2) rfl) ?_
  refine kc_X4_37 rfl (dtk dt_X4_lookAct 2 (3, .invokevirtual 37, 3) rfl) (c_X3_add (G := G) (l := 6) (ln := 60) hl) rfl rfl (wk_6 hO.wf) (fitR (by decide) (by decide)) (Nat.le_of_ble_eq_true rfl) (pqK ?_)
  rw [show addM M 6 10 60 = adL M [10] from rfl]
  refine x_iload_n (dtk dt_X4_lookAct 3 (6, .iload_n 1, 1) rfl) rfl ?_
  refine x_aload_n (dtk dt_X4_lookAct 4 (7, .aload_n 0, 1) rfl) rfl ?_
  refine fg_X4_18 rfl (dtk dt_X4_lookAct 5 (8, .getfield 18, 3) rfl) hO.k hO.c (hO.ad [10]).pc ?_
  refine w_iadd (dtk dt_X4_lookAct 6 (11, .iadd, 1) rfl) ?_
  exact r_i (dtk dt_X4_lookAct 7 (12, .ireturn, 1) rfl) rfl rfl rfl
set_option maxRecDepth 100000 in
set_option maxHeartbeats 1000000 in
theorem c_X9_lookAct_5 {G : GG} {n : Nat} {K : KK} {M : MM} {p x nm m : Int} {d : Int → Int} (hO : OB K M p 5 nm m d) (hl : LN K M 6 60) : MC G mi_X9_lookAct 3 0 0 [(1, p), (0, x), (1, 6)] n K M (PQ (some (0, wr (wr (x + prs m d) + 1))) n K (adL M [20, 10])) := by
  refine MC.intro (lc := [(0, (1, p)), (1, (0, x)), (2, (1, 6))]) (by decide) rfl (by simp [Nat.ble]) (Nat.le_of_ble_eq_true rfl) rfl (fun hMR => ?_)
  refine x_aload_n (dtk dt_X9_lookAct 0 (0, .aload_n 2, 1) rfl) rfl ?_
  refine x_bipush (v := 20) ⟨by decide, by decide⟩ (dtk dt_X9_lookAct 1 (1, .bipush 20, 2) rfl) ?_
  refine kc_X9_7 rfl (dtk dt_X9_lookAct 2 (3, .invokevirtual 7, 3) rfl) (c_X3_add (G := G) (l := 6) (ln := 60) hl) rfl rfl (wk_6 hO.wf) (fitR (by decide) (by decide)) (Nat.le_of_ble_eq_true rfl) (pqK ?_)
  rw [show addM M 6 20 60 = adL M [20] from rfl]
  refine x_aload_n (dtk dt_X9_lookAct 3 (6, .aload_n 0, 1) rfl) rfl ?_
  refine x_iload_n (dtk dt_X9_lookAct 4 (7, .iload_n 1, 1) rfl) rfl ?_
  refine x_aload_n (dtk dt_X9_lookAct 5 (8, .aload_n 2, 1) rfl) rfl ?_
  refine kc_X9_13 rfl (dtk dt_X9_lookAct 6 (9, .invokespecial 13, 3) rfl) (c_X4_lookAct_5 (G := G)  (hO.ad [20]) (LN.ad [20] hl)) rfl rfl hO.k hO.c (fitR (by decide) (by decide)) (Nat.le_of_ble_eq_true rfl) (pqK ?_)
  rw [show adL (adL M [20]) [10] = adL M [20, 10] from adL_app _ _ _]
  refine x_iconst (v := 1) ⟨by decide, by decide⟩ (dtk dt_X9_lookAct 7 (12, .iconst 1, 1) rfl) ?_
  refine w_iadd (dtk dt_X9_lookAct 8 (13, .iadd, 1) rfl) ?_
  exact r_i (dtk dt_X9_lookAct 9 (14, .ireturn, 1) rfl) rfl rfl rfl
set_option maxRecDepth 100000 in
set_option maxHeartbeats 1000000 in
theorem c_X5_lookAct_5 {G : GG} {n : Nat} {K : KK} {M : MM} {p x nm m : Int} {d : Int → Int} (hO : OB K M p 5 nm m d) (hl : LN K M 6 60) : MC G mi_X5_lookAct 4 0 0 [(1, p), (0, x), (1, 6)] n K M (PQ (some (0, wr (wr (wr (x + prs m d) + 1) * 2))) n K (adL M [61, 20, 10])) := by
  refine MC.intro (lc := [(0, (1, p)), (1, (0, x)), (2, (1, 6))]) (by decide) rfl (by simp [Nat.ble]) (Nat.le_of_ble_eq_true rfl) rfl (fun hMR => ?_)
  refine x_aload_n (dtk dt_X5_lookAct 0 (0, .aload_n 2, 1) rfl) rfl ?_
  refine x_bipush (v := 61) ⟨by decide, by decide⟩ (dtk dt_X5_lookAct 1 (1, .bipush 61, 2) rfl) ?_
  refine kc_X5_7 rfl (dtk dt_X5_lookAct 2 (3, .invokevirtual 7, 3) rfl) (c_X3_add (G := G) (l := 6) (ln := 60) hl) rfl rfl (wk_6 hO.wf) (fitR (by decide) (by decide)) (Nat.le_of_ble_eq_true rfl) (pqK ?_)
  rw [show addM M 6 61 60 = adL M [61] from rfl]
  refine x_aload_n (dtk dt_X5_lookAct 3 (6, .aload_n 0, 1) rfl) rfl ?_
  refine x_iload_n (dtk dt_X5_lookAct 4 (7, .iload_n 1, 1) rfl) rfl ?_
  refine x_aload_n (dtk dt_X5_lookAct 5 (8, .aload_n 2, 1) rfl) rfl ?_
  refine kc_X5_17 rfl (dtk dt_X5_lookAct 6 (9, .invokespecial 17, 3) rfl) (c_X9_lookAct_5 (G := G)  (hO.ad [61]) (LN.ad [61] hl)) rfl rfl hO.k hO.c (fitR (by decide) (by decide)) (Nat.le_of_ble_eq_true rfl) (pqK ?_)
  rw [show adL (adL M [61]) [20, 10] = adL M [61, 20, 10] from adL_app _ _ _]
  refine x_iconst (v := 2) ⟨by decide, by decide⟩ (dtk dt_X5_lookAct 7 (12, .iconst 2, 1) rfl) ?_
  refine w_imul (dtk dt_X5_lookAct 8 (13, .imul, 1) rfl) ?_
  exact r_i (dtk dt_X5_lookAct 9 (14, .ireturn, 1) rfl) rfl rfl rfl
set_option maxRecDepth 100000 in
set_option maxHeartbeats 1000000 in
theorem c_X4_partAct_5 {G : GG} {n : Nat} {K : KK} {M : MM} {p x nm m : Int} {d : Int → Int} (hO : OB K M p 5 nm m d) (hl : LN K M 6 60) : MC G mi_X4_partAct 5 0 0 [(1, p), (0, x), (1, 6)] n K M (PQ (some (0, wr (wr (wr (wr (x + prs m d) + 1) * 2) * m))) n K (adL M [11, 61, 20, 10])) := by
  refine MC.intro (lc := [(0, (1, p)), (1, (0, x)), (2, (1, 6))]) (by decide) rfl (by simp [Nat.ble]) (Nat.le_of_ble_eq_true rfl) rfl (fun hMR => ?_)
  refine x_aload_n (dtk dt_X4_partAct 0 (0, .aload_n 2, 1) rfl) rfl ?_
  refine x_bipush (v := 11) ⟨by decide, by decide⟩ (dtk dt_X4_partAct 1 (1, .bipush 11, 2) rfl) ?_
  refine kc_X4_37 rfl (dtk dt_X4_partAct 2 (3, .invokevirtual 37, 3) rfl) (c_X3_add (G := G) (l := 6) (ln := 60) hl) rfl rfl (wk_6 hO.wf) (fitR (by decide) (by decide)) (Nat.le_of_ble_eq_true rfl) (pqK ?_)
  rw [show addM M 6 11 60 = adL M [11] from rfl]
  refine x_aload_n (dtk dt_X4_partAct 3 (6, .aload_n 0, 1) rfl) rfl ?_
  refine x_iload_n (dtk dt_X4_partAct 4 (7, .iload_n 1, 1) rfl) rfl ?_
  refine x_aload_n (dtk dt_X4_partAct 5 (8, .aload_n 2, 1) rfl) rfl ?_
  refine kc_X4_43_X5 rfl (dtk dt_X4_partAct 6 (9, .invokevirtual 43, 3) rfl) (c_X5_lookAct_5 (G := G)  (hO.ad [11]) (LN.ad [11] hl)) rfl rfl hO.k (fitR (by decide) (by decide)) (Nat.le_of_ble_eq_true rfl) (pqK ?_)
  rw [show adL (adL M [11]) [61, 20, 10] = adL M [11, 61, 20, 10] from adL_app _ _ _]
  refine x_aload_n (dtk dt_X4_partAct 7 (12, .aload_n 0, 1) rfl) rfl ?_
  refine fg_X4_34 rfl (dtk dt_X4_partAct 8 (13, .getfield 34, 3) rfl) hO.k hO.c (hO.ad [11, 61, 20, 10]).n ?_
  refine w_imul (dtk dt_X4_partAct 9 (16, .imul, 1) rfl) ?_
  exact r_i (dtk dt_X4_partAct 10 (17, .ireturn, 1) rfl) rfl rfl rfl
set_option maxRecDepth 100000 in
set_option maxHeartbeats 1000000 in
theorem c_X5_partAct_5 {G : GG} {n : Nat} {K : KK} {M : MM} {p x nm m : Int} {d : Int → Int} (hO : OB K M p 5 nm m d) (hl : LN K M 6 60) : MC G mi_X5_partAct 6 0 0 [(1, p), (0, x), (1, 6)] n K M (PQ (some (0, wr (wr (wr (wr ((wr (x + 2)) + prs m d) + 1) * 2) * m))) n K (adL M [60, 11, 61, 20, 10])) := by
  refine MC.intro (lc := [(0, (1, p)), (1, (0, x)), (2, (1, 6))]) (by decide) rfl (by simp [Nat.ble]) (Nat.le_of_ble_eq_true rfl) rfl (fun hMR => ?_)
  refine x_aload_n (dtk dt_X5_partAct 0 (0, .aload_n 2, 1) rfl) rfl ?_
  refine x_bipush (v := 60) ⟨by decide, by decide⟩ (dtk dt_X5_partAct 1 (1, .bipush 60, 2) rfl) ?_
  refine kc_X5_7 rfl (dtk dt_X5_partAct 2 (3, .invokevirtual 7, 3) rfl) (c_X3_add (G := G) (l := 6) (ln := 60) hl) rfl rfl (wk_6 hO.wf) (fitR (by decide) (by decide)) (Nat.le_of_ble_eq_true rfl) (pqK ?_)
  rw [show addM M 6 60 60 = adL M [60] from rfl]
  refine x_aload_n (dtk dt_X5_partAct 3 (6, .aload_n 0, 1) rfl) rfl ?_
  refine x_iload_n (dtk dt_X5_partAct 4 (7, .iload_n 1, 1) rfl) rfl ?_
  refine x_iconst (v := 2) ⟨by decide, by decide⟩ (dtk dt_X5_partAct 5 (8, .iconst 2, 1) rfl) ?_
  refine w_iadd (dtk dt_X5_partAct 6 (9, .iadd, 1) rfl) ?_
  refine x_aload_n (dtk dt_X5_partAct 7 (10, .aload_n 2, 1) rfl) rfl ?_
  refine kc_X5_13 rfl (dtk dt_X5_partAct 8 (11, .invokespecial 13, 3) rfl) (c_X4_partAct_5 (G := G)  (hO.ad [60]) (LN.ad [60] hl)) rfl rfl hO.k hO.c (fitR (by decide) (by decide)) (Nat.le_of_ble_eq_true rfl) (pqK ?_)
  rw [show adL (adL M [60]) [11, 61, 20, 10] = adL M [60, 11, 61, 20, 10] from adL_app _ _ _]
  exact r_i (dtk dt_X5_partAct 9 (14, .ireturn, 1) rfl) rfl rfl rfl
set_option maxRecDepth 100000 in
set_option maxHeartbeats 1000000 in
theorem c_X4_joinAct_5 {G : GG} {n : Nat} {K : KK} {M : MM} {p x nm m : Int} {d : Int → Int} (hO : OB K M p 5 nm m d) (hl : LN K M 6 60) : MC G mi_X4_joinAct 2 0 0 [(1, p), (0, x), (1, 6)] n K M (PQ (some (0, wr (x - nm))) n K (adL M [12])) := by
  refine MC.intro (lc := [(0, (1, p)), (1, (0, x)), (2, (1, 6))]) (by decide) rfl (by simp [Nat.ble]) (Nat.le_of_ble_eq_true rfl) rfl (fun hMR => ?_)
  refine x_aload_n (dtk dt_X4_joinAct 0 (0, .aload_n 2, 1) rfl) rfl ?_
  refine x_bipush (v := 12) ⟨by decide, by decide⟩ (dtk dt_X4_joinAct 1 (1, .bipush 12, 2) rfl) ?_
  refine kc_X4_37 rfl (dtk dt_X4_joinAct 2 (3, .invokevirtual 37, 3) rfl) (c_X3_add (G := G) (l := 6) (ln := 60) hl) rfl rfl (wk_6 hO.wf) (fitR (by decide) (by decide)) (Nat.le_of_ble_eq_true rfl) (pqK ?_)
  rw [show addM M 6 12 60 = adL M [12] from rfl]
  refine x_iload_n (dtk dt_X4_joinAct 3 (6, .iload_n 1, 1) rfl) rfl ?_
  refine x_aload_n (dtk dt_X4_joinAct 4 (7, .aload_n 0, 1) rfl) rfl ?_
  refine fg_X4_22 rfl (dtk dt_X4_joinAct 5 (8, .getfield 22, 3) rfl) hO.k hO.c (hO.ad [12]).num ?_
  refine w_isub (dtk dt_X4_joinAct 6 (11, .isub, 1) rfl) ?_
  exact r_i (dtk dt_X4_joinAct 7 (12, .ireturn, 1) rfl) rfl rfl rfl
set_option maxRecDepth 100000 in
set_option maxHeartbeats 1000000 in
theorem c_X4_tellAct_5 {G : GG} {n : Nat} {K : KK} {M : MM} {p x nm m : Int} {d : Int → Int} (hO : OB K M p 5 nm m d) (hl : LN K M 6 60) : MC G mi_X4_tellAct 7 0 0 [(1, p), (0, x), (1, 6)] n K M (PQ (some (0, zxor (wr (wr (wr (wr ((wr (x + 2)) + prs m d) + 1) * 2) * m)) (wr (x - nm)))) n K (adL M [13, 60, 11, 61, 20, 10, 12])) := by
  refine MC.intro (lc := [(0, (1, p)), (1, (0, x)), (2, (1, 6))]) (by decide) rfl (by simp [Nat.ble]) (Nat.le_of_ble_eq_true rfl) rfl (fun hMR => ?_)
  refine x_aload_n (dtk dt_X4_tellAct 0 (0, .aload_n 2, 1) rfl) rfl ?_
  refine x_bipush (v := 13) ⟨by decide, by decide⟩ (dtk dt_X4_tellAct 1 (1, .bipush 13, 2) rfl) ?_
  refine kc_X4_37 rfl (dtk dt_X4_tellAct 2 (3, .invokevirtual 37, 3) rfl) (c_X3_add (G := G) (l := 6) (ln := 60) hl) rfl rfl (wk_6 hO.wf) (fitR (by decide) (by decide)) (Nat.le_of_ble_eq_true rfl) (pqK ?_)
  rw [show addM M 6 13 60 = adL M [13] from rfl]
  refine x_aload_n (dtk dt_X4_tellAct 3 (6, .aload_n 0, 1) rfl) rfl ?_
  refine x_iload_n (dtk dt_X4_tellAct 4 (7, .iload_n 1, 1) rfl) rfl ?_
  refine x_aload_n (dtk dt_X4_tellAct 5 (8, .aload_n 2, 1) rfl) rfl ?_
  refine kc_X4_47_X5 rfl (dtk dt_X4_tellAct 6 (9, .invokevirtual 47, 3) rfl) (c_X5_partAct_5 (G := G)  (hO.ad [13]) (LN.ad [13] hl)) rfl rfl hO.k (fitR (by decide) (by decide)) (Nat.le_of_ble_eq_true rfl) (pqK ?_)
  rw [show adL (adL M [13]) [60, 11, 61, 20, 10] = adL M [13, 60, 11, 61, 20, 10] from adL_app _ _ _]
  refine x_aload_n (dtk dt_X4_tellAct 7 (12, .aload_n 0, 1) rfl) rfl ?_
  refine x_iload_n (dtk dt_X4_tellAct 8 (13, .iload_n 1, 1) rfl) rfl ?_
  refine x_aload_n (dtk dt_X4_tellAct 9 (14, .aload_n 2, 1) rfl) rfl ?_
  refine kc_X4_50_X5 rfl (dtk dt_X4_tellAct 10 (15, .invokevirtual 50, 3) rfl) (c_X4_joinAct_5 (G := G)  (hO.ad [13, 60, 11, 61, 20, 10]) (LN.ad [13, 60, 11, 61, 20, 10] hl)) rfl rfl hO.k (fitR (by decide) (by decide)) (Nat.le_of_ble_eq_true rfl) (pqK ?_)
  rw [show adL (adL M [13, 60, 11, 61, 20, 10]) [12] = adL M [13, 60, 11, 61, 20, 10, 12] from adL_app _ _ _]
  refine x_ixor (dtk dt_X4_tellAct 11 (18, .ixor, 1) rfl) ?_
  exact r_i (dtk dt_X4_tellAct 12 (19, .ireturn, 1) rfl) rfl rfl rfl
set_option maxRecDepth 100000 in
set_option maxHeartbeats 1000000 in
theorem c_X9_tellAct_5 {G : GG} {n : Nat} {K : KK} {M : MM} {p x nm m : Int} {d : Int → Int} (hO : OB K M p 5 nm m d) (hl : LN K M 6 60) : MC G mi_X9_tellAct 8 0 0 [(1, p), (0, x), (1, 6)] n K M (PQ (some (0, zxor (wr (wr (wr (wr ((wr ((wr (x * 2)) + 2)) + prs m d) + 1) * 2) * m)) (wr ((wr (x * 2)) - nm)))) n K (adL M [21, 13, 60, 11, 61, 20, 10, 12])) := by
  refine MC.intro (lc := [(0, (1, p)), (1, (0, x)), (2, (1, 6))]) (by decide) rfl (by simp [Nat.ble]) (Nat.le_of_ble_eq_true rfl) rfl (fun hMR => ?_)
  refine x_aload_n (dtk dt_X9_tellAct 0 (0, .aload_n 2, 1) rfl) rfl ?_
  refine x_bipush (v := 21) ⟨by decide, by decide⟩ (dtk dt_X9_tellAct 1 (1, .bipush 21, 2) rfl) ?_
  refine kc_X9_7 rfl (dtk dt_X9_tellAct 2 (3, .invokevirtual 7, 3) rfl) (c_X3_add (G := G) (l := 6) (ln := 60) hl) rfl rfl (wk_6 hO.wf) (fitR (by decide) (by decide)) (Nat.le_of_ble_eq_true rfl) (pqK ?_)
  rw [show addM M 6 21 60 = adL M [21] from rfl]
  refine x_aload_n (dtk dt_X9_tellAct 3 (6, .aload_n 0, 1) rfl) rfl ?_
  refine x_iload_n (dtk dt_X9_tellAct 4 (7, .iload_n 1, 1) rfl) rfl ?_
  refine x_iconst (v := 2) ⟨by decide, by decide⟩ (dtk dt_X9_tellAct 5 (8, .iconst 2, 1) rfl) ?_
  refine w_imul (dtk dt_X9_tellAct 6 (9, .imul, 1) rfl) ?_
  refine x_aload_n (dtk dt_X9_tellAct 7 (10, .aload_n 2, 1) rfl) rfl ?_
  refine kc_X9_17 rfl (dtk dt_X9_tellAct 8 (11, .invokespecial 17, 3) rfl) (c_X4_tellAct_5 (G := G)  (hO.ad [21]) (LN.ad [21] hl)) rfl rfl hO.k hO.c (fitR (by decide) (by decide)) (Nat.le_of_ble_eq_true rfl) (pqK ?_)
  rw [show adL (adL M [21]) [13, 60, 11, 61, 20, 10, 12] = adL M [21, 13, 60, 11, 61, 20, 10, 12] from adL_app _ _ _]
  exact r_i (dtk dt_X9_tellAct 9 (14, .ireturn, 1) rfl) rfl rfl rfl
