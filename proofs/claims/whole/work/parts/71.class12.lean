/-! ===== the class: constructors of orders ===== -/
set_option maxRecDepth 100000 in
set_option maxHeartbeats 4000000 in
theorem c_X4_init {G : GG} {n : Nat} {K : KK} {M : MM} {p nm q : Int} {ci : Nat} (hw : WF K M) (hk : K p = (0, ci)) (hc : isO ci) (hpn : (n : Int) = p + 1) (hg : 55 ≤ p) (hq : 0 ≤ q ∧ q ≤ 10) (hn : n < 100000) : MC G mi_X4_init 2 2 20 [(1, p), (0, nm), (0, q)] n K M (iniQ n K M p ci nm q) := by
  refine MC.intro (lc := [(0, (1, p)), (1, (0, nm)), (2, (0, q))]) (by decide) rfl (by simp [Nat.ble]) (Nat.le_of_ble_eq_true rfl) rfl (fun hMR => ?_)
  have hk1 : (upK K (n : Int) (1, 10)) p = (0, ci) := by (rw [upK_ne _ _ (by omega)]; exact hk)
  have hk2 : (upK (upK K (n : Int) (1, 10)) ((n + 1 : Nat) : Int) (1, 10)) p = (0, ci) := by (rw [upK_ne _ _ (by omega)]; exact hk1)
  refine x_aload_n (dtk dt_X4_init 0 (0, .aload_n 0, 1) rfl) rfl ?_
  refine x_objInit (dtk dt_X4_init 1 (1, .invokespecial 3, 3) rfl) (by omega) (Nat.le_of_ble_eq_true rfl) ⟨by decide, by decide⟩ w272 w107 w108 ?_
  refine x_aload_n (dtk dt_X4_init 2 (4, .aload_n 0, 1) rfl) rfl ?_
  refine x_bipush (v := 10) ⟨by decide, by decide⟩ (dtk dt_X4_init 3 (5, .bipush 10, 2) rfl) ?_
  refine x_newi (dtk dt_X4_init 4 (7, .newarray .int, 2) rfl) rfl ⟨by decide, by decide⟩ w130 (by omega) ⟨by decide, by decide⟩ ?_
  refine fp_X4_9 rfl rfl (dtk dt_X4_init 5 (9, .putfield 9, 3) rfl) hk1 hc ?_
  refine x_aload_n (dtk dt_X4_init 6 (12, .aload_n 0, 1) rfl) rfl ?_
  refine x_bipush (v := 10) ⟨by decide, by decide⟩ (dtk dt_X4_init 7 (13, .bipush 10, 2) rfl) ?_
  refine x_newi (dtk dt_X4_init 8 (15, .newarray .int, 2) rfl) rfl ⟨by decide, by decide⟩ w130 (by omega) ⟨by decide, by decide⟩ ?_
  refine fp_X4_15 rfl rfl (dtk dt_X4_init 9 (17, .putfield 15, 3) rfl) hk2 hc ?_
  refine x_aload_n (dtk dt_X4_init 10 (20, .aload_n 0, 1) rfl) rfl ?_
  refine x_iconst (v := 0) ⟨by decide, by decide⟩ (dtk dt_X4_init 11 (21, .iconst 0, 1) rfl) ?_
  refine fp_X4_18 rfl (dtk dt_X4_init 12 (22, .putfield 18, 3) rfl) hk2 hc ?_
  refine x_aload_n (dtk dt_X4_init 13 (25, .aload_n 0, 1) rfl) rfl ?_
  refine x_iload_n (dtk dt_X4_init 14 (26, .iload_n 1, 1) rfl) rfl ?_
  refine fp_X4_22 rfl rfl (dtk dt_X4_init 15 (27, .putfield 22, 3) rfl) hk2 hc ?_
  refine x_aload_n (dtk dt_X4_init 16 (30, .aload_n 0, 1) rfl) rfl ?_
  refine x_iload_n (dtk dt_X4_init 17 (31, .iload_n 2, 1) rfl) rfl ?_
  refine x_iconst (v := 0) ⟨by decide, by decide⟩ (dtk dt_X4_init 18 (32, .iconst 0, 1) rfl) ?_
  refine kc_X4_25 rfl (dtk dt_X4_init 19 (33, .invokestatic 25, 3) rfl) (c_J9_max_7cf53 (G := G)  ) rfl rfl (fitG (by decide) (by decide) (by decide) (by decide)) (Nat.le_of_ble_eq_true rfl) (pqK ?_)
  refine x_bipush (v := 10) ⟨by decide, by decide⟩ (dtk dt_X4_init 20 (36, .bipush 10, 2) rfl) ?_
  refine kc_X4_31 rfl (dtk dt_X4_init 21 (38, .invokestatic 31, 3) rfl) (c_J9_min_7cf53 (G := G)  ) rfl rfl (fitG (by decide) (by decide) (by decide) (by decide)) (Nat.le_of_ble_eq_true rfl) (pqK ?_)
  rw [show (if 10 < (if q < 0 then 0 else q) then 10 else (if q < 0 then 0 else q)) = q from by (rw [if_neg (show ¬ q < 0 by omega), if_neg (by omega)])]
  refine fp_X4_34 rfl rfl (dtk dt_X4_init 22 (41, .putfield 34, 3) rfl) hk2 hc ?_
  exact x_vret (dtk dt_X4_init 23 (44, .return_, 1) rfl) rfl ⟨rfl, rfl, rfl, ini_ok hw hk hc hpn hg hq rfl⟩
set_option maxRecDepth 100000 in
set_option maxHeartbeats 4000000 in
theorem c_X9_init {G : GG} {n : Nat} {K : KK} {M : MM} {p nm q : Int} {ci : Nat} (hw : WF K M) (hk : K p = (0, ci)) (hc : isO ci) (hpn : (n : Int) = p + 1) (hg : 55 ≤ p) (hq : 0 ≤ q ∧ q ≤ 10) (hn : n < 100000) : MC G mi_X9_init 3 2 20 [(1, p), (0, nm), (0, q)] n K M (iniQ n K M p ci nm q) := by
  refine MC.intro (lc := [(0, (1, p)), (1, (0, nm)), (2, (0, q))]) (by decide) rfl (by simp [Nat.ble]) (Nat.le_of_ble_eq_true rfl) rfl (fun hMR => ?_)
  refine x_aload_n (dtk dt_X9_init 0 (0, .aload_n 0, 1) rfl) rfl ?_
  refine x_iload_n (dtk dt_X9_init 1 (1, .iload_n 1, 1) rfl) rfl ?_
  refine x_iload_n (dtk dt_X9_init 2 (2, .iload_n 2, 1) rfl) rfl ?_
  refine kc_X9_1 rfl (dtk dt_X9_init 3 (3, .invokespecial 1, 3) rfl) (c_X4_init (G := G)  hw hk hc hpn hg hq hn) rfl rfl (by omega) (fitG (by decide) (by decide) (by decide) (by decide)) (Nat.le_of_ble_eq_true rfl) (fun rr3 n3 K3 M3 hq3 => ?_)
  obtain ⟨rfl, hq3⟩ := hq3
  exact x_vret (dtk dt_X9_init 4 (6, .return_, 1) rfl) rfl ⟨rfl, hq3⟩
set_option maxRecDepth 100000 in
set_option maxHeartbeats 4000000 in
theorem c_X0_init {G : GG} {n : Nat} {K : KK} {M : MM} {p nm q : Int} {ci : Nat} (hw : WF K M) (hk : K p = (0, ci)) (hc : isO ci) (hpn : (n : Int) = p + 1) (hg : 55 ≤ p) (hq : 0 ≤ q ∧ q ≤ 10) (hn : n < 100000) : MC G mi_X0_init 4 2 20 [(1, p), (0, nm), (0, q)] n K M (iniQ n K M p ci nm q) := by
  refine MC.intro (lc := [(0, (1, p)), (1, (0, nm)), (2, (0, q))]) (by decide) rfl (by simp [Nat.ble]) (Nat.le_of_ble_eq_true rfl) rfl (fun hMR => ?_)
  refine x_aload_n (dtk dt_X0_init 0 (0, .aload_n 0, 1) rfl) rfl ?_
  refine x_iload_n (dtk dt_X0_init 1 (1, .iload_n 1, 1) rfl) rfl ?_
  refine x_iload_n (dtk dt_X0_init 2 (2, .iload_n 2, 1) rfl) rfl ?_
  refine kc_X0_1 rfl (dtk dt_X0_init 3 (3, .invokespecial 1, 3) rfl) (c_X9_init (G := G)  hw hk hc hpn hg hq hn) rfl rfl (by omega) (fitG (by decide) (by decide) (by decide) (by decide)) (Nat.le_of_ble_eq_true rfl) (fun rr3 n3 K3 M3 hq3 => ?_)
  obtain ⟨rfl, hq3⟩ := hq3
  exact x_vret (dtk dt_X0_init 4 (6, .return_, 1) rfl) rfl ⟨rfl, hq3⟩
set_option maxRecDepth 100000 in
set_option maxHeartbeats 4000000 in
theorem c_X10_init {G : GG} {n : Nat} {K : KK} {M : MM} {p nm q : Int} {ci : Nat} (hw : WF K M) (hk : K p = (0, ci)) (hc : isO ci) (hpn : (n : Int) = p + 1) (hg : 55 ≤ p) (hq : 0 ≤ q ∧ q ≤ 10) (hn : n < 100000) : MC G mi_X10_init 5 2 20 [(1, p), (0, nm), (0, q)] n K M (iniQ n K M p ci nm q) := by
  refine MC.intro (lc := [(0, (1, p)), (1, (0, nm)), (2, (0, q))]) (by decide) rfl (by simp [Nat.ble]) (Nat.le_of_ble_eq_true rfl) rfl (fun hMR => ?_)
  refine x_aload_n (dtk dt_X10_init 0 (0, .aload_n 0, 1) rfl) rfl ?_
  refine x_iload_n (dtk dt_X10_init 1 (1, .iload_n 1, 1) rfl) rfl ?_
  refine x_iload_n (dtk dt_X10_init 2 (2, .iload_n 2, 1) rfl) rfl ?_
  refine kc_X10_1 rfl (dtk dt_X10_init 3 (3, .invokespecial 1, 3) rfl) (c_X0_init (G := G)  hw hk hc hpn hg hq hn) rfl rfl (by omega) (fitG (by decide) (by decide) (by decide) (by decide)) (Nat.le_of_ble_eq_true rfl) (fun rr3 n3 K3 M3 hq3 => ?_)
  obtain ⟨rfl, hq3⟩ := hq3
  exact x_vret (dtk dt_X10_init 4 (6, .return_, 1) rfl) rfl ⟨rfl, hq3⟩
set_option maxRecDepth 100000 in
set_option maxHeartbeats 4000000 in
theorem c_X2_init {G : GG} {n : Nat} {K : KK} {M : MM} {p nm q : Int} {ci : Nat} (hw : WF K M) (hk : K p = (0, ci)) (hc : isO ci) (hpn : (n : Int) = p + 1) (hg : 55 ≤ p) (hq : 0 ≤ q ∧ q ≤ 10) (hn : n < 100000) : MC G mi_X2_init 3 2 20 [(1, p), (0, nm), (0, q)] n K M (iniQ n K M p ci nm q) := by
  refine MC.intro (lc := [(0, (1, p)), (1, (0, nm)), (2, (0, q))]) (by decide) rfl (by simp [Nat.ble]) (Nat.le_of_ble_eq_true rfl) rfl (fun hMR => ?_)
  refine x_aload_n (dtk dt_X2_init 0 (0, .aload_n 0, 1) rfl) rfl ?_
  refine x_iload_n (dtk dt_X2_init 1 (1, .iload_n 1, 1) rfl) rfl ?_
  refine x_iload_n (dtk dt_X2_init 2 (2, .iload_n 2, 1) rfl) rfl ?_
  refine kc_X2_1 rfl (dtk dt_X2_init 3 (3, .invokespecial 1, 3) rfl) (c_X4_init (G := G)  hw hk hc hpn hg hq hn) rfl rfl (by omega) (fitG (by decide) (by decide) (by decide) (by decide)) (Nat.le_of_ble_eq_true rfl) (fun rr3 n3 K3 M3 hq3 => ?_)
  obtain ⟨rfl, hq3⟩ := hq3
  exact x_vret (dtk dt_X2_init 4 (6, .return_, 1) rfl) rfl ⟨rfl, hq3⟩
set_option maxRecDepth 100000 in
set_option maxHeartbeats 4000000 in
theorem c_X5_init {G : GG} {n : Nat} {K : KK} {M : MM} {p nm q : Int} {ci : Nat} (hw : WF K M) (hk : K p = (0, ci)) (hc : isO ci) (hpn : (n : Int) = p + 1) (hg : 55 ≤ p) (hq : 0 ≤ q ∧ q ≤ 10) (hn : n < 100000) : MC G mi_X5_init 4 2 20 [(1, p), (0, nm), (0, q)] n K M (iniQ n K M p ci nm q) := by
  refine MC.intro (lc := [(0, (1, p)), (1, (0, nm)), (2, (0, q))]) (by decide) rfl (by simp [Nat.ble]) (Nat.le_of_ble_eq_true rfl) rfl (fun hMR => ?_)
  refine x_aload_n (dtk dt_X5_init 0 (0, .aload_n 0, 1) rfl) rfl ?_
  refine x_iload_n (dtk dt_X5_init 1 (1, .iload_n 1, 1) rfl) rfl ?_
  refine x_iload_n (dtk dt_X5_init 2 (2, .iload_n 2, 1) rfl) rfl ?_
  refine kc_X5_1 rfl (dtk dt_X5_init 3 (3, .invokespecial 1, 3) rfl) (c_X9_init (G := G)  hw hk hc hpn hg hq hn) rfl rfl (by omega) (fitG (by decide) (by decide) (by decide) (by decide)) (Nat.le_of_ble_eq_true rfl) (fun rr3 n3 K3 M3 hq3 => ?_)
  obtain ⟨rfl, hq3⟩ := hq3
  exact x_vret (dtk dt_X5_init 4 (6, .return_, 1) rfl) rfl ⟨rfl, hq3⟩
