/-! ===== the class: constructors of its parts ===== -/
set_option maxRecDepth 100000 in
set_option maxHeartbeats 1000000 in
theorem c_X3_init_10 {G : GG} {n : Nat} {K : KK} {M : MM} {p : Int} (hk : K p = (0, 3)) (hp : 0 ≤ p ∧ p < n) (hn : n < 200000) : MC G mi_X3_init 2 1 10 [(1, p), (0, 10)] n K M (PQ none (n + 1) (upK K (n : Int) (1, 10)) (st2 (zM (st2 M p 1 0) (n : Int) []) p 0 (n : Int))) := by
  refine MC.intro (lc := [(0, (1, p)), (1, (0, 10))]) (by decide) rfl (by simp [Nat.ble]) (Nat.le_of_ble_eq_true rfl) rfl (fun hMR => ?_)
  refine x_aload_n (dtk dt_X3_init 0 (0, .aload_n 0, 1) rfl) rfl ?_
  refine x_objInit (dtk dt_X3_init 1 (1, .invokespecial 3, 3) rfl) (by omega) (Nat.le_of_ble_eq_true rfl) ⟨by decide, by decide⟩ w116 w107 w108 ?_
  refine x_aload_n (dtk dt_X3_init 2 (4, .aload_n 0, 1) rfl) rfl ?_
  refine x_iconst (v := 0) ⟨by decide, by decide⟩ (dtk dt_X3_init 3 (5, .iconst 0, 1) rfl) ?_
  refine fp_X3_9 rfl (dtk dt_X3_init 4 (6, .putfield 9, 3) rfl) hk ?_
  refine x_aload_n (dtk dt_X3_init 5 (9, .aload_n 0, 1) rfl) rfl ?_
  refine x_iload_n (dtk dt_X3_init 6 (10, .iload_n 1, 1) rfl) rfl ?_
  refine x_iconst (v := 0) ⟨by decide, by decide⟩ (dtk dt_X3_init 7 (11, .iconst 0, 1) rfl) ?_
  refine kc_X3_15 rfl (dtk dt_X3_init 8 (12, .invokestatic 15, 3) rfl) (c_J9_max_7cf53 (G := G)  ) rfl rfl (fitG (by decide) (by decide) (by decide) (by decide)) (Nat.le_of_ble_eq_true rfl) (pqK ?_)
  rw [show (if (10 : Int) < 0 then (0 : Int) else 10) = 10 from rfl]
  refine x_newi (dtk dt_X3_init 9 (15, .newarray .int, 2) rfl) rfl ⟨by decide, by decide⟩ w130 (by omega) ⟨by decide, by decide⟩ ?_
  refine fp_X3_21 rfl rfl (dtk dt_X3_init 10 (17, .putfield 21, 3) rfl) ((upK_ne _ _ (by omega)).trans hk) ?_
  exact x_vret (dtk dt_X3_init 11 (20, .return_, 1) rfl) rfl ⟨rfl, rfl, rfl, rfl⟩
set_option maxRecDepth 100000 in
set_option maxHeartbeats 1000000 in
theorem c_X3_init_60 {G : GG} {n : Nat} {K : KK} {M : MM} {p : Int} (hk : K p = (0, 3)) (hp : 0 ≤ p ∧ p < n) (hn : n < 200000) : MC G mi_X3_init 2 1 60 [(1, p), (0, 60)] n K M (PQ none (n + 1) (upK K (n : Int) (1, 60)) (st2 (zM (st2 M p 1 0) (n : Int) []) p 0 (n : Int))) := by
  refine MC.intro (lc := [(0, (1, p)), (1, (0, 60))]) (by decide) rfl (by simp [Nat.ble]) (Nat.le_of_ble_eq_true rfl) rfl (fun hMR => ?_)
  refine x_aload_n (dtk dt_X3_init 0 (0, .aload_n 0, 1) rfl) rfl ?_
  refine x_objInit (dtk dt_X3_init 1 (1, .invokespecial 3, 3) rfl) (by omega) (Nat.le_of_ble_eq_true rfl) ⟨by decide, by decide⟩ w116 w107 w108 ?_
  refine x_aload_n (dtk dt_X3_init 2 (4, .aload_n 0, 1) rfl) rfl ?_
  refine x_iconst (v := 0) ⟨by decide, by decide⟩ (dtk dt_X3_init 3 (5, .iconst 0, 1) rfl) ?_
  refine fp_X3_9 rfl (dtk dt_X3_init 4 (6, .putfield 9, 3) rfl) hk ?_
  refine x_aload_n (dtk dt_X3_init 5 (9, .aload_n 0, 1) rfl) rfl ?_
  refine x_iload_n (dtk dt_X3_init 6 (10, .iload_n 1, 1) rfl) rfl ?_
  refine x_iconst (v := 0) ⟨by decide, by decide⟩ (dtk dt_X3_init 7 (11, .iconst 0, 1) rfl) ?_
  refine kc_X3_15 rfl (dtk dt_X3_init 8 (12, .invokestatic 15, 3) rfl) (c_J9_max_7cf53 (G := G)  ) rfl rfl (fitG (by decide) (by decide) (by decide) (by decide)) (Nat.le_of_ble_eq_true rfl) (pqK ?_)
  rw [show (if (60 : Int) < 0 then (0 : Int) else 60) = 60 from rfl]
  refine x_newi (dtk dt_X3_init 9 (15, .newarray .int, 2) rfl) rfl ⟨by decide, by decide⟩ w130 (by omega) ⟨by decide, by decide⟩ ?_
  refine fp_X3_21 rfl rfl (dtk dt_X3_init 10 (17, .putfield 21, 3) rfl) ((upK_ne _ _ (by omega)).trans hk) ?_
  exact x_vret (dtk dt_X3_init 11 (20, .return_, 1) rfl) rfl ⟨rfl, rfl, rfl, rfl⟩
set_option maxRecDepth 100000 in
set_option maxHeartbeats 1000000 in
theorem c_X8_init {G : GG} {n : Nat} {K : KK} {M : MM} {p : Int} (hk : K p = (0, 8)) (hp : 0 ≤ p ∧ p < n) (hn : n < 100000) : MC G mi_X8_init 1 1 20 [(1, p)] n K M (PQ none (n + 1) (upK K (n : Int) (1, 20)) (st2 (st2 (st2 (zM M (n : Int) []) p 0 (n : Int)) p 1 (-1)) p 2 0)) := by
  refine MC.intro (lc := [(0, (1, p))]) (by decide) rfl (by simp [Nat.ble]) (Nat.le_of_ble_eq_true rfl) rfl (fun hMR => ?_)
  refine x_aload_n (dtk dt_X8_init 0 (0, .aload_n 0, 1) rfl) rfl ?_
  refine x_objInit (dtk dt_X8_init 1 (1, .invokespecial 3, 3) rfl) (by omega) (Nat.le_of_ble_eq_true rfl) ⟨by decide, by decide⟩ w206 w107 w108 ?_
  refine x_aload_n (dtk dt_X8_init 2 (4, .aload_n 0, 1) rfl) rfl ?_
  refine x_bipush (v := 20) ⟨by decide, by decide⟩ (dtk dt_X8_init 3 (5, .bipush 20, 2) rfl) ?_
  refine x_newi (dtk dt_X8_init 4 (7, .newarray .int, 2) rfl) rfl ⟨by decide, by decide⟩ w130 (by omega) ⟨by decide, by decide⟩ ?_
  refine fp_X8_9 rfl rfl (dtk dt_X8_init 5 (9, .putfield 9, 3) rfl) ((upK_ne _ _ (by omega)).trans hk) ?_
  refine x_aload_n (dtk dt_X8_init 6 (12, .aload_n 0, 1) rfl) rfl ?_
  refine x_iconst (v := -1) ⟨by decide, by decide⟩ (dtk dt_X8_init 7 (13, .iconst (-1), 1) rfl) ?_
  refine fp_X8_15 rfl (dtk dt_X8_init 8 (14, .putfield 15, 3) rfl) ((upK_ne _ _ (by omega)).trans hk) ?_
  refine x_aload_n (dtk dt_X8_init 9 (17, .aload_n 0, 1) rfl) rfl ?_
  refine x_iconst (v := 0) ⟨by decide, by decide⟩ (dtk dt_X8_init 10 (18, .iconst 0, 1) rfl) ?_
  refine fp_X8_19 rfl (dtk dt_X8_init 11 (19, .putfield 19, 3) rfl) ((upK_ne _ _ (by omega)).trans hk) ?_
  exact x_vret (dtk dt_X8_init 12 (22, .return_, 1) rfl) rfl ⟨rfl, rfl, rfl, rfl⟩
set_option maxRecDepth 100000 in
set_option maxHeartbeats 1000000 in
theorem c_X6_init {G : GG} {n : Nat} {K : KK} {M : MM} {p : Int} (hk : K p = (0, 6)) (hp : 0 ≤ p ∧ p < n) (hn : n < 100000) : MC G mi_X6_init 1 4 4096 [(1, p)] n K M (PQ none (n + 4) (upK (upK (upK (upK K (n : Int) (1, 1024)) ((n + 1 : Nat) : Int) (1, 1024)) ((n + 1 + 1 : Nat) : Int) (1, 1024)) ((n + 1 + 1 + 1 : Nat) : Int) (1, 1024)) (st2 (st2 (st2 (zM (st2 (zM (st2 (zM (st2 (zM M (n : Int) []) p 0 (n : Int)) ((n + 1 : Nat) : Int) []) p 1 ((n + 1 : Nat) : Int)) ((n + 1 + 1 : Nat) : Int) []) p 2 ((n + 1 + 1 : Nat) : Int)) ((n + 1 + 1 + 1 : Nat) : Int) []) p 3 ((n + 1 + 1 + 1 : Nat) : Int)) p 4 (-1)) p 5 0)) := by
  refine MC.intro (lc := [(0, (1, p))]) (by decide) rfl (by simp [Nat.ble]) (Nat.le_of_ble_eq_true rfl) rfl (fun hMR => ?_)
  refine x_aload_n (dtk dt_X6_init 0 (0, .aload_n 0, 1) rfl) rfl ?_
  refine x_objInit (dtk dt_X6_init 1 (1, .invokespecial 3, 3) rfl) (by omega) (Nat.le_of_ble_eq_true rfl) ⟨by decide, by decide⟩ w138 w107 w108 ?_
  refine x_aload_n (dtk dt_X6_init 2 (4, .aload_n 0, 1) rfl) rfl ?_
  refine x_sipush (v := 1024) ⟨by decide, by decide⟩ (dtk dt_X6_init 3 (5, .sipush 1024, 3) rfl) ?_
  refine x_newi (dtk dt_X6_init 4 (8, .newarray .int, 2) rfl) rfl ⟨by decide, by decide⟩ w130 (by omega) ⟨by decide, by decide⟩ ?_
  refine fp_X6_9 rfl rfl (dtk dt_X6_init 5 (10, .putfield 9, 3) rfl) ((upK_ne _ _ (by omega)).trans hk) ?_
  refine x_aload_n (dtk dt_X6_init 6 (13, .aload_n 0, 1) rfl) rfl ?_
  refine x_sipush (v := 1024) ⟨by decide, by decide⟩ (dtk dt_X6_init 7 (14, .sipush 1024, 3) rfl) ?_
  refine x_newi (dtk dt_X6_init 8 (17, .newarray .int, 2) rfl) rfl ⟨by decide, by decide⟩ w130 (by omega) ⟨by decide, by decide⟩ ?_
  refine fp_X6_15 rfl rfl (dtk dt_X6_init 9 (19, .putfield 15, 3) rfl) ((upK_ne _ _ (by omega)).trans ((upK_ne _ _ (by omega)).trans hk)) ?_
  refine x_aload_n (dtk dt_X6_init 10 (22, .aload_n 0, 1) rfl) rfl ?_
  refine x_sipush (v := 1024) ⟨by decide, by decide⟩ (dtk dt_X6_init 11 (23, .sipush 1024, 3) rfl) ?_
  refine x_newi (dtk dt_X6_init 12 (26, .newarray .int, 2) rfl) rfl ⟨by decide, by decide⟩ w130 (by omega) ⟨by decide, by decide⟩ ?_
  refine fp_X6_18 rfl rfl (dtk dt_X6_init 13 (28, .putfield 18, 3) rfl) ((upK_ne _ _ (by omega)).trans ((upK_ne _ _ (by omega)).trans ((upK_ne _ _ (by omega)).trans hk))) ?_
  refine x_aload_n (dtk dt_X6_init 14 (31, .aload_n 0, 1) rfl) rfl ?_
  refine x_sipush (v := 1024) ⟨by decide, by decide⟩ (dtk dt_X6_init 15 (32, .sipush 1024, 3) rfl) ?_
  refine x_newi (dtk dt_X6_init 16 (35, .newarray .int, 2) rfl) rfl ⟨by decide, by decide⟩ w130 (by omega) ⟨by decide, by decide⟩ ?_
  refine fp_X6_21 rfl rfl (dtk dt_X6_init 17 (37, .putfield 21, 3) rfl) ((upK_ne _ _ (by omega)).trans ((upK_ne _ _ (by omega)).trans ((upK_ne _ _ (by omega)).trans ((upK_ne _ _ (by omega)).trans hk)))) ?_
  refine x_aload_n (dtk dt_X6_init 18 (40, .aload_n 0, 1) rfl) rfl ?_
  refine x_null (dtk dt_X6_init 19 (41, .aconst_null, 1) rfl) ?_
  refine fp_X6_24 rfl (dtk dt_X6_init 20 (42, .putfield 24, 3) rfl) ((upK_ne _ _ (by omega)).trans ((upK_ne _ _ (by omega)).trans ((upK_ne _ _ (by omega)).trans ((upK_ne _ _ (by omega)).trans hk)))) ?_
  refine x_aload_n (dtk dt_X6_init 21 (45, .aload_n 0, 1) rfl) rfl ?_
  refine x_iconst (v := 0) ⟨by decide, by decide⟩ (dtk dt_X6_init 22 (46, .iconst 0, 1) rfl) ?_
  refine fp_X6_28 rfl (dtk dt_X6_init 23 (47, .putfield 28, 3) rfl) ((upK_ne _ _ (by omega)).trans ((upK_ne _ _ (by omega)).trans ((upK_ne _ _ (by omega)).trans ((upK_ne _ _ (by omega)).trans hk)))) ?_
  exact x_vret (dtk dt_X6_init 24 (50, .return_, 1) rfl) rfl ⟨rfl, rfl, rfl, rfl⟩
set_option maxRecDepth 100000 in
set_option maxHeartbeats 1000000 in
theorem c_X1_init {G : GG} {n : Nat} {K : KK} {M : MM} {p : Int} (hk : K p = (0, 1)) (hp : 0 ≤ p ∧ p < n) (hn : n < 100000) : MC G mi_X1_init 1 3 210 [(1, p)] n K M (PQ none (n + 3) (upK (upK (upK K (n : Int) (1, 100)) ((n + 1 : Nat) : Int) (1, 100)) ((n + 1 + 1 : Nat) : Int) (1, 10)) (st2 (zM (st2 (zM (st2 (zM M (n : Int) []) p 0 (n : Int)) ((n + 1 : Nat) : Int) []) p 1 ((n + 1 : Nat) : Int)) ((n + 1 + 1 : Nat) : Int) []) p 2 ((n + 1 + 1 : Nat) : Int))) := by
  refine MC.intro (lc := [(0, (1, p))]) (by decide) rfl (by simp [Nat.ble]) (Nat.le_of_ble_eq_true rfl) rfl (fun hMR => ?_)
  refine x_aload_n (dtk dt_X1_init 0 (0, .aload_n 0, 1) rfl) rfl ?_
  refine x_objInit (dtk dt_X1_init 1 (1, .invokespecial 3, 3) rfl) (by omega) (Nat.le_of_ble_eq_true rfl) ⟨by decide, by decide⟩ w163 w107 w108 ?_
  refine x_aload_n (dtk dt_X1_init 2 (4, .aload_n 0, 1) rfl) rfl ?_
  refine x_bipush (v := 100) ⟨by decide, by decide⟩ (dtk dt_X1_init 3 (5, .bipush 100, 2) rfl) ?_
  refine x_newi (dtk dt_X1_init 4 (7, .newarray .int, 2) rfl) rfl ⟨by decide, by decide⟩ w130 (by omega) ⟨by decide, by decide⟩ ?_
  refine fp_X1_9 rfl rfl (dtk dt_X1_init 5 (9, .putfield 9, 3) rfl) ((upK_ne _ _ (by omega)).trans hk) ?_
  refine x_aload_n (dtk dt_X1_init 6 (12, .aload_n 0, 1) rfl) rfl ?_
  refine x_bipush (v := 100) ⟨by decide, by decide⟩ (dtk dt_X1_init 7 (13, .bipush 100, 2) rfl) ?_
  refine x_newi (dtk dt_X1_init 8 (15, .newarray .int, 2) rfl) rfl ⟨by decide, by decide⟩ w130 (by omega) ⟨by decide, by decide⟩ ?_
  refine fp_X1_15 rfl rfl (dtk dt_X1_init 9 (17, .putfield 15, 3) rfl) ((upK_ne _ _ (by omega)).trans ((upK_ne _ _ (by omega)).trans hk)) ?_
  refine x_aload_n (dtk dt_X1_init 10 (20, .aload_n 0, 1) rfl) rfl ?_
  refine x_bipush (v := 10) ⟨by decide, by decide⟩ (dtk dt_X1_init 11 (21, .bipush 10, 2) rfl) ?_
  refine x_newi (dtk dt_X1_init 12 (23, .newarray .int, 2) rfl) rfl ⟨by decide, by decide⟩ w130 (by omega) ⟨by decide, by decide⟩ ?_
  refine fp_X1_18 rfl rfl (dtk dt_X1_init 13 (25, .putfield 18, 3) rfl) ((upK_ne _ _ (by omega)).trans ((upK_ne _ _ (by omega)).trans ((upK_ne _ _ (by omega)).trans hk))) ?_
  exact x_vret (dtk dt_X1_init 14 (28, .return_, 1) rfl) rfl ⟨rfl, rfl, rfl, rfl⟩
set_option maxRecDepth 100000 in
set_option maxHeartbeats 1000000 in
theorem c_X7_init {G : GG} {n : Nat} {K : KK} {M : MM} {p : Int} (hk : K p = (0, 7)) (hp : 0 ≤ p ∧ p < n) (hn : n < 100000) : MC G mi_X7_init 3 7 62 [(1, p)] n K M (PQ none (n + 7) (upK (upK (upK (upK (upK (upK (upK K (n : Int) (0, 3)) ((n + 1 : Nat) : Int) (1, 10)) ((n + 1 + 1 : Nat) : Int) (1, 10)) ((n + 1 + 1 + 1 : Nat) : Int) (1, 10)) ((n + 1 + 1 + 1 + 1 : Nat) : Int) (1, 10)) ((n + 1 + 1 + 1 + 1 + 1 : Nat) : Int) (1, 10)) ((n + 1 + 1 + 1 + 1 + 1 + 1 : Nat) : Int) (1, 10)) (st2 (zM (st2 (zM (st2 (zM (st2 (zM (st2 (zM (st2 (st2 (zM (st2 (zM M (n : Int) [1, 0]) (n : Int) 1 0) ((n + 1 : Nat) : Int) []) (n : Int) 0 ((n + 1 : Nat) : Int)) p 0 (n : Int)) ((n + 1 + 1 : Nat) : Int) []) p 1 ((n + 1 + 1 : Nat) : Int)) ((n + 1 + 1 + 1 : Nat) : Int) []) p 2 ((n + 1 + 1 + 1 : Nat) : Int)) ((n + 1 + 1 + 1 + 1 : Nat) : Int) []) p 3 ((n + 1 + 1 + 1 + 1 : Nat) : Int)) ((n + 1 + 1 + 1 + 1 + 1 : Nat) : Int) []) p 4 ((n + 1 + 1 + 1 + 1 + 1 : Nat) : Int)) ((n + 1 + 1 + 1 + 1 + 1 + 1 : Nat) : Int) []) p 5 ((n + 1 + 1 + 1 + 1 + 1 + 1 : Nat) : Int))) := by
  refine MC.intro (lc := [(0, (1, p))]) (by decide) rfl (by simp [Nat.ble]) (Nat.le_of_ble_eq_true rfl) rfl (fun hMR => ?_)
  refine x_aload_n (dtk dt_X7_init 0 (0, .aload_n 0, 1) rfl) rfl ?_
  refine x_objInit (dtk dt_X7_init 1 (1, .invokespecial 3, 3) rfl) (by omega) (Nat.le_of_ble_eq_true rfl) ⟨by decide, by decide⟩ w179 w107 w108 ?_
  refine x_aload_n (dtk dt_X7_init 2 (4, .aload_n 0, 1) rfl) rfl ?_
  refine x_new (ci := 3) (dtk dt_X7_init 3 (5, .new 9, 3) rfl) cl_3 cd_3 w180 w112 w86 (by omega) ⟨by decide, by decide⟩ ?_
  refine x_dup rfl (dtk dt_X7_init 4 (8, .dup, 1) rfl) ?_
  refine x_bipush (v := 10) ⟨by decide, by decide⟩ (dtk dt_X7_init 5 (9, .bipush 10, 2) rfl) ?_
  refine kc_X7_11 rfl (dtk dt_X7_init 6 (11, .invokespecial 11, 3) rfl) (c_X3_init_10 (G := G) (p := (n : Int)) (upK_self _ _ _) ⟨by omega, by omega⟩ (by omega)) rfl rfl (by omega) (fitG (by decide) (by decide) (by decide) (by decide)) (Nat.le_of_ble_eq_true rfl) (fun rr11 n11 K11 M11 hq11 => ?_)
  obtain ⟨rfl, rfl, rfl, rfl⟩ := hq11
  refine fp_X7_14 rfl rfl (dtk dt_X7_init 7 (14, .putfield 14, 3) rfl) ((upK_ne _ _ (by omega)).trans ((upK_ne _ _ (by omega)).trans hk)) ?_
  refine x_aload_n (dtk dt_X7_init 8 (17, .aload_n 0, 1) rfl) rfl ?_
  refine x_bipush (v := 10) ⟨by decide, by decide⟩ (dtk dt_X7_init 9 (18, .bipush 10, 2) rfl) ?_
  refine x_newi (dtk dt_X7_init 10 (20, .newarray .int, 2) rfl) rfl ⟨by decide, by decide⟩ w130 (by omega) ⟨by decide, by decide⟩ ?_
  refine fp_X7_20 rfl rfl (dtk dt_X7_init 11 (22, .putfield 20, 3) rfl) ((upK_ne _ _ (by omega)).trans ((upK_ne _ _ (by omega)).trans ((upK_ne _ _ (by omega)).trans hk))) ?_
  refine x_aload_n (dtk dt_X7_init 12 (25, .aload_n 0, 1) rfl) rfl ?_
  refine x_bipush (v := 10) ⟨by decide, by decide⟩ (dtk dt_X7_init 13 (26, .bipush 10, 2) rfl) ?_
  refine x_newi (dtk dt_X7_init 14 (28, .newarray .int, 2) rfl) rfl ⟨by decide, by decide⟩ w130 (by omega) ⟨by decide, by decide⟩ ?_
  refine fp_X7_24 rfl rfl (dtk dt_X7_init 15 (30, .putfield 24, 3) rfl) ((upK_ne _ _ (by omega)).trans ((upK_ne _ _ (by omega)).trans ((upK_ne _ _ (by omega)).trans ((upK_ne _ _ (by omega)).trans hk)))) ?_
  refine x_aload_n (dtk dt_X7_init 16 (33, .aload_n 0, 1) rfl) rfl ?_
  refine x_bipush (v := 10) ⟨by decide, by decide⟩ (dtk dt_X7_init 17 (34, .bipush 10, 2) rfl) ?_
  refine x_newi (dtk dt_X7_init 18 (36, .newarray .int, 2) rfl) rfl ⟨by decide, by decide⟩ w130 (by omega) ⟨by decide, by decide⟩ ?_
  refine fp_X7_27 rfl rfl (dtk dt_X7_init 19 (38, .putfield 27, 3) rfl) ((upK_ne _ _ (by omega)).trans ((upK_ne _ _ (by omega)).trans ((upK_ne _ _ (by omega)).trans ((upK_ne _ _ (by omega)).trans ((upK_ne _ _ (by omega)).trans hk))))) ?_
  refine x_aload_n (dtk dt_X7_init 20 (41, .aload_n 0, 1) rfl) rfl ?_
  refine x_bipush (v := 10) ⟨by decide, by decide⟩ (dtk dt_X7_init 21 (42, .bipush 10, 2) rfl) ?_
  refine x_newi (dtk dt_X7_init 22 (44, .newarray .int, 2) rfl) rfl ⟨by decide, by decide⟩ w130 (by omega) ⟨by decide, by decide⟩ ?_
  refine fp_X7_30 rfl rfl (dtk dt_X7_init 23 (46, .putfield 30, 3) rfl) ((upK_ne _ _ (by omega)).trans ((upK_ne _ _ (by omega)).trans ((upK_ne _ _ (by omega)).trans ((upK_ne _ _ (by omega)).trans ((upK_ne _ _ (by omega)).trans ((upK_ne _ _ (by omega)).trans hk)))))) ?_
  refine x_aload_n (dtk dt_X7_init 24 (49, .aload_n 0, 1) rfl) rfl ?_
  refine x_bipush (v := 10) ⟨by decide, by decide⟩ (dtk dt_X7_init 25 (50, .bipush 10, 2) rfl) ?_
  refine x_newi (dtk dt_X7_init 26 (52, .newarray .int, 2) rfl) rfl ⟨by decide, by decide⟩ w130 (by omega) ⟨by decide, by decide⟩ ?_
  refine fp_X7_33 rfl rfl (dtk dt_X7_init 27 (54, .putfield 33, 3) rfl) ((upK_ne _ _ (by omega)).trans ((upK_ne _ _ (by omega)).trans ((upK_ne _ _ (by omega)).trans ((upK_ne _ _ (by omega)).trans ((upK_ne _ _ (by omega)).trans ((upK_ne _ _ (by omega)).trans ((upK_ne _ _ (by omega)).trans hk))))))) ?_
  exact x_vret (dtk dt_X7_init 28 (57, .return_, 1) rfl) rfl ⟨rfl, rfl, rfl, rfl⟩
