/-! ===== the class: its constructor ===== -/
set_option maxRecDepth 100000 in
set_option maxHeartbeats 1000000 in
theorem c_X11_init {G : GG} {n : Nat} {K : KK} {M : MM}  (hn : n = 1) (hK : K = upK K0 0 (0, 11)) : MC G mi_X11_init 4 35 4585 [(1, 0)] n K M ini11 := by
  refine MC.intro (lc := [(0, (1, 0))]) (by decide) rfl (by simp [Nat.ble]) (Nat.le_of_ble_eq_true rfl) rfl (fun hMR => ?_)
  subst hn
  subst hK
  refine x_aload_n (dtk dt_X11_init 0 (0, .aload_n 0, 1) rfl) rfl ?_
  refine x_objInit (dtk dt_X11_init 1 (1, .invokespecial 1, 3) rfl) (by decide) (Nat.le_of_ble_eq_true rfl) ⟨by decide, by decide⟩ w106 w107 w108 ?_
  refine x_aload_n (dtk dt_X11_init 2 (4, .aload_n 0, 1) rfl) rfl ?_
  refine x_bipush (v := 8) ⟨by decide, by decide⟩ (dtk dt_X11_init 3 (5, .bipush 8, 2) rfl) ?_
  refine x_anew (t := 2) (dtk dt_X11_init 4 (7, .anewarray 9, 3) rfl) (Or.inl rfl) ⟨by decide, by decide⟩ w109 (by omega) ⟨by decide, by decide⟩ ?_
  refine fp_X11_11 rfl rfl (dtk dt_X11_init 5 (10, .putfield 11, 3) rfl) rfl ?_
  refine x_aload_n (dtk dt_X11_init 6 (13, .aload_n 0, 1) rfl) rfl ?_
  refine x_iconst (v := 0) ⟨by decide, by decide⟩ (dtk dt_X11_init 7 (14, .iconst 0, 1) rfl) ?_
  refine fp_X11_15 rfl (dtk dt_X11_init 8 (15, .putfield 15, 3) rfl) rfl ?_
  refine x_aload_n (dtk dt_X11_init 9 (18, .aload_n 0, 1) rfl) rfl ?_
  refine x_new (ci := 3) (dtk dt_X11_init 10 (19, .new 19, 3) rfl) cl_3 cd_3 w111 w112 w86 (by omega) ⟨by decide, by decide⟩ ?_
  refine x_dup rfl (dtk dt_X11_init 11 (22, .dup, 1) rfl) ?_
  refine x_bipush (v := 10) ⟨by decide, by decide⟩ (dtk dt_X11_init 12 (23, .bipush 10, 2) rfl) ?_
  refine kc_X11_21 rfl (dtk dt_X11_init 13 (25, .invokespecial 21, 3) rfl) (c_X3_init_10 (G := G)  (by exact rfl) ⟨by decide, by decide⟩ (by decide)) rfl rfl (by decide) (fitG (by decide) (by decide) (by decide) (by decide)) (Nat.le_of_ble_eq_true rfl) (fun rr25 n25 K25 M25 hq25 => ?_)
  obtain ⟨rfl, rfl, rfl, rfl⟩ := hq25
  refine fp_X11_24 rfl rfl (dtk dt_X11_init 14 (28, .putfield 24, 3) rfl) rfl ?_
  refine x_aload_n (dtk dt_X11_init 15 (31, .aload_n 0, 1) rfl) rfl ?_
  refine x_new (ci := 3) (dtk dt_X11_init 16 (32, .new 19, 3) rfl) cl_3 cd_3 w111 w112 w86 (by omega) ⟨by decide, by decide⟩ ?_
  refine x_dup rfl (dtk dt_X11_init 17 (35, .dup, 1) rfl) ?_
  refine x_bipush (v := 10) ⟨by decide, by decide⟩ (dtk dt_X11_init 18 (36, .bipush 10, 2) rfl) ?_
  refine kc_X11_21 rfl (dtk dt_X11_init 19 (38, .invokespecial 21, 3) rfl) (c_X3_init_10 (G := G)  (by exact rfl) ⟨by decide, by decide⟩ (by decide)) rfl rfl (by decide) (fitG (by decide) (by decide) (by decide) (by decide)) (Nat.le_of_ble_eq_true rfl) (fun rr38 n38 K38 M38 hq38 => ?_)
  obtain ⟨rfl, rfl, rfl, rfl⟩ := hq38
  refine fp_X11_28 rfl rfl (dtk dt_X11_init 20 (41, .putfield 28, 3) rfl) rfl ?_
  refine x_aload_n (dtk dt_X11_init 21 (44, .aload_n 0, 1) rfl) rfl ?_
  refine x_iconst (v := -1) ⟨by decide, by decide⟩ (dtk dt_X11_init 22 (45, .iconst (-1), 1) rfl) ?_
  refine fp_X11_31 rfl (dtk dt_X11_init 23 (46, .putfield 31, 3) rfl) rfl ?_
  refine x_aload_n (dtk dt_X11_init 24 (49, .aload_n 0, 1) rfl) rfl ?_
  refine x_new (ci := 3) (dtk dt_X11_init 25 (50, .new 19, 3) rfl) cl_3 cd_3 w111 w112 w86 (by omega) ⟨by decide, by decide⟩ ?_
  refine x_dup rfl (dtk dt_X11_init 26 (53, .dup, 1) rfl) ?_
  refine x_bipush (v := 60) ⟨by decide, by decide⟩ (dtk dt_X11_init 27 (54, .bipush 60, 2) rfl) ?_
  refine kc_X11_21 rfl (dtk dt_X11_init 28 (56, .invokespecial 21, 3) rfl) (c_X3_init_60 (G := G)  (by exact rfl) ⟨by decide, by decide⟩ (by decide)) rfl rfl (by decide) (fitG (by decide) (by decide) (by decide) (by decide)) (Nat.le_of_ble_eq_true rfl) (fun rr56 n56 K56 M56 hq56 => ?_)
  obtain ⟨rfl, rfl, rfl, rfl⟩ := hq56
  refine fp_X11_34 rfl rfl (dtk dt_X11_init 29 (59, .putfield 34, 3) rfl) rfl ?_
  refine x_aload_n (dtk dt_X11_init 30 (62, .aload_n 0, 1) rfl) rfl ?_
  refine x_iconst (v := 4) ⟨by decide, by decide⟩ (dtk dt_X11_init 31 (63, .iconst 4, 1) rfl) ?_
  refine x_anew (t := 3) (dtk dt_X11_init 32 (64, .anewarray 37, 3) rfl) (Or.inr rfl) ⟨by decide, by decide⟩ w131 (by omega) ⟨by decide, by decide⟩ ?_
  refine fp_X11_39 rfl rfl (dtk dt_X11_init 33 (67, .putfield 39, 3) rfl) rfl ?_
  refine x_aload_n (dtk dt_X11_init 34 (70, .aload_n 0, 1) rfl) rfl ?_
  refine x_new (ci := 6) (dtk dt_X11_init 35 (71, .new 43, 3) rfl) cl_6 cd_6 w133 w134 w88 (by omega) ⟨by decide, by decide⟩ ?_
  refine x_dup rfl (dtk dt_X11_init 36 (74, .dup, 1) rfl) ?_
  refine kc_X11_45 rfl (dtk dt_X11_init 37 (75, .invokespecial 45, 3) rfl) (c_X6_init (G := G)  (by exact rfl) ⟨by decide, by decide⟩ (by decide)) rfl rfl (by decide) (fitG (by decide) (by decide) (by decide) (by decide)) (Nat.le_of_ble_eq_true rfl) (fun rr75 n75 K75 M75 hq75 => ?_)
  obtain ⟨rfl, rfl, rfl, rfl⟩ := hq75
  refine fp_X11_46 rfl rfl (dtk dt_X11_init 38 (78, .putfield 46, 3) rfl) rfl ?_
  refine x_aload_n (dtk dt_X11_init 39 (81, .aload_n 0, 1) rfl) rfl ?_
  refine x_new (ci := 1) (dtk dt_X11_init 40 (82, .new 50, 3) rfl) cl_1 cd_1 w158 w159 w89 (by omega) ⟨by decide, by decide⟩ ?_
  refine x_dup rfl (dtk dt_X11_init 41 (85, .dup, 1) rfl) ?_
  refine kc_X11_52 rfl (dtk dt_X11_init 42 (86, .invokespecial 52, 3) rfl) (c_X1_init (G := G)  (by exact rfl) ⟨by decide, by decide⟩ (by decide)) rfl rfl (by decide) (fitG (by decide) (by decide) (by decide) (by decide)) (Nat.le_of_ble_eq_true rfl) (fun rr86 n86 K86 M86 hq86 => ?_)
  obtain ⟨rfl, rfl, rfl, rfl⟩ := hq86
  refine fp_X11_53 rfl rfl (dtk dt_X11_init 43 (89, .putfield 53, 3) rfl) rfl ?_
  refine x_aload_n (dtk dt_X11_init 44 (92, .aload_n 0, 1) rfl) rfl ?_
  refine x_new (ci := 7) (dtk dt_X11_init 45 (93, .new 57, 3) rfl) cl_7 cd_7 w174 w175 w90 (by omega) ⟨by decide, by decide⟩ ?_
  refine x_dup rfl (dtk dt_X11_init 46 (96, .dup, 1) rfl) ?_
  refine kc_X11_59 rfl (dtk dt_X11_init 47 (97, .invokespecial 59, 3) rfl) (c_X7_init (G := G)  (by exact rfl) ⟨by decide, by decide⟩ (by decide)) rfl rfl (by decide) (fitG (by decide) (by decide) (by decide) (by decide)) (Nat.le_of_ble_eq_true rfl) (fun rr97 n97 K97 M97 hq97 => ?_)
  obtain ⟨rfl, rfl, rfl, rfl⟩ := hq97
  refine fp_X11_60 rfl rfl (dtk dt_X11_init 48 (100, .putfield 60, 3) rfl) rfl ?_
  refine x_aload_n (dtk dt_X11_init 49 (103, .aload_n 0, 1) rfl) rfl ?_
  refine x_new (ci := 3) (dtk dt_X11_init 50 (104, .new 19, 3) rfl) cl_3 cd_3 w111 w112 w86 (by omega) ⟨by decide, by decide⟩ ?_
  refine x_dup rfl (dtk dt_X11_init 51 (107, .dup, 1) rfl) ?_
  refine x_bipush (v := 10) ⟨by decide, by decide⟩ (dtk dt_X11_init 52 (108, .bipush 10, 2) rfl) ?_
  refine kc_X11_21 rfl (dtk dt_X11_init 53 (110, .invokespecial 21, 3) rfl) (c_X3_init_10 (G := G)  (by exact rfl) ⟨by decide, by decide⟩ (by decide)) rfl rfl (by decide) (fitG (by decide) (by decide) (by decide) (by decide)) (Nat.le_of_ble_eq_true rfl) (fun rr110 n110 K110 M110 hq110 => ?_)
  obtain ⟨rfl, rfl, rfl, rfl⟩ := hq110
  refine fp_X11_64 rfl rfl (dtk dt_X11_init 54 (113, .putfield 64, 3) rfl) rfl ?_
  refine x_aload_n (dtk dt_X11_init 55 (116, .aload_n 0, 1) rfl) rfl ?_
  refine x_iconst (v := 0) ⟨by decide, by decide⟩ (dtk dt_X11_init 56 (117, .iconst 0, 1) rfl) ?_
  refine fp_X11_67 rfl (dtk dt_X11_init 57 (118, .putfield 67, 3) rfl) rfl ?_
  refine x_iconst (v := 0) ⟨by decide, by decide⟩ (dtk dt_X11_init 58 (121, .iconst 0, 1) rfl) ?_
  refine x_istore_n (dtk dt_X11_init 59 (122, .istore_n 1, 1) rfl) (by decide) ?_
  refine x_iload_n (dtk dt_X11_init 60 (123, .iload_n 1, 1) rfl) rfl ?_
  refine x_iconst (v := 4) ⟨by decide, by decide⟩ (dtk dt_X11_init 61 (124, .iconst 4, 1) rfl) ?_
  refine x_icmp_ge (tgt := 147) (dtk dt_X11_init 62 (125, .if_icmp .ge 22, 3) rfl) (by decide) (fun c125 => ?_) (fun c125 => ?_)
  · exact absurd c125 (by decide)
  refine x_aload_n (dtk dt_X11_init 63 (128, .aload_n 0, 1) rfl) rfl ?_
  refine fg_X11_39 rfl (dtk dt_X11_init 64 (129, .getfield 39, 3) rfl) rfl (v := 8) rfl ?_
  refine x_iload_n (dtk dt_X11_init 65 (132, .iload_n 1, 1) rfl) rfl ?_
  refine x_new (ci := 8) (dtk dt_X11_init 66 (133, .new 37, 3) rfl) cl_8 cd_8 w131 w202 w91 (by omega) ⟨by decide, by decide⟩ ?_
  refine x_dup rfl (dtk dt_X11_init 67 (136, .dup, 1) rfl) ?_
  refine kc_X11_70 rfl (dtk dt_X11_init 68 (137, .invokespecial 70, 3) rfl) (c_X8_init (G := G)  (by exact rfl) ⟨by decide, by decide⟩ (by decide)) rfl rfl (by decide) (fitG (by decide) (by decide) (by decide) (by decide)) (Nat.le_of_ble_eq_true rfl) (fun rr137 n137 K137 M137 hq137 => ?_)
  obtain ⟨rfl, rfl, rfl, rfl⟩ := hq137
  refine x_aast (dtk dt_X11_init 69 (140, .aastore, 1) rfl) rfl ⟨by omega, by omega⟩ (by exact rfl) cl_8 (Or.inr ⟨rfl, rfl⟩) ?_
  refine y_iinc (dtk dt_X11_init 70 (141, .iinc 1 1, 3) rfl) rfl (by decide) ⟨by omega, by omega⟩ ?_
  refine x_goto (tgt := 123) (dtk dt_X11_init 71 (144, .goto (-21), 3) rfl) (by decide) ?_
  refine x_iload_n (dtk dt_X11_init 60 (123, .iload_n 1, 1) rfl) rfl ?_
  refine x_iconst (v := 4) ⟨by decide, by decide⟩ (dtk dt_X11_init 61 (124, .iconst 4, 1) rfl) ?_
  refine x_icmp_ge (tgt := 147) (dtk dt_X11_init 62 (125, .if_icmp .ge 22, 3) rfl) (by decide) (fun c125 => ?_) (fun c125 => ?_)
  · exact absurd c125 (by decide)
  refine x_aload_n (dtk dt_X11_init 63 (128, .aload_n 0, 1) rfl) rfl ?_
  refine fg_X11_39 rfl (dtk dt_X11_init 64 (129, .getfield 39, 3) rfl) rfl (v := 8) rfl ?_
  refine x_iload_n (dtk dt_X11_init 65 (132, .iload_n 1, 1) rfl) rfl ?_
  refine x_new (ci := 8) (dtk dt_X11_init 66 (133, .new 37, 3) rfl) cl_8 cd_8 w131 w202 w91 (by omega) ⟨by decide, by decide⟩ ?_
  refine x_dup rfl (dtk dt_X11_init 67 (136, .dup, 1) rfl) ?_
  refine kc_X11_70 rfl (dtk dt_X11_init 68 (137, .invokespecial 70, 3) rfl) (c_X8_init (G := G)  (by exact rfl) ⟨by decide, by decide⟩ (by decide)) rfl rfl (by decide) (fitG (by decide) (by decide) (by decide) (by decide)) (Nat.le_of_ble_eq_true rfl) (fun rr137 n137 K137 M137 hq137 => ?_)
  obtain ⟨rfl, rfl, rfl, rfl⟩ := hq137
  refine x_aast (dtk dt_X11_init 69 (140, .aastore, 1) rfl) rfl ⟨by omega, by omega⟩ (by exact rfl) cl_8 (Or.inr ⟨rfl, rfl⟩) ?_
  refine y_iinc (dtk dt_X11_init 70 (141, .iinc 1 1, 3) rfl) rfl (by decide) ⟨by omega, by omega⟩ ?_
  refine x_goto (tgt := 123) (dtk dt_X11_init 71 (144, .goto (-21), 3) rfl) (by decide) ?_
  refine x_iload_n (dtk dt_X11_init 60 (123, .iload_n 1, 1) rfl) rfl ?_
  refine x_iconst (v := 4) ⟨by decide, by decide⟩ (dtk dt_X11_init 61 (124, .iconst 4, 1) rfl) ?_
  refine x_icmp_ge (tgt := 147) (dtk dt_X11_init 62 (125, .if_icmp .ge 22, 3) rfl) (by decide) (fun c125 => ?_) (fun c125 => ?_)
  · exact absurd c125 (by decide)
  refine x_aload_n (dtk dt_X11_init 63 (128, .aload_n 0, 1) rfl) rfl ?_
  refine fg_X11_39 rfl (dtk dt_X11_init 64 (129, .getfield 39, 3) rfl) rfl (v := 8) rfl ?_
  refine x_iload_n (dtk dt_X11_init 65 (132, .iload_n 1, 1) rfl) rfl ?_
  refine x_new (ci := 8) (dtk dt_X11_init 66 (133, .new 37, 3) rfl) cl_8 cd_8 w131 w202 w91 (by omega) ⟨by decide, by decide⟩ ?_
  refine x_dup rfl (dtk dt_X11_init 67 (136, .dup, 1) rfl) ?_
  refine kc_X11_70 rfl (dtk dt_X11_init 68 (137, .invokespecial 70, 3) rfl) (c_X8_init (G := G)  (by exact rfl) ⟨by decide, by decide⟩ (by decide)) rfl rfl (by decide) (fitG (by decide) (by decide) (by decide) (by decide)) (Nat.le_of_ble_eq_true rfl) (fun rr137 n137 K137 M137 hq137 => ?_)
  obtain ⟨rfl, rfl, rfl, rfl⟩ := hq137
  refine x_aast (dtk dt_X11_init 69 (140, .aastore, 1) rfl) rfl ⟨by omega, by omega⟩ (by exact rfl) cl_8 (Or.inr ⟨rfl, rfl⟩) ?_
  refine y_iinc (dtk dt_X11_init 70 (141, .iinc 1 1, 3) rfl) rfl (by decide) ⟨by omega, by omega⟩ ?_
  refine x_goto (tgt := 123) (dtk dt_X11_init 71 (144, .goto (-21), 3) rfl) (by decide) ?_
  refine x_iload_n (dtk dt_X11_init 60 (123, .iload_n 1, 1) rfl) rfl ?_
  refine x_iconst (v := 4) ⟨by decide, by decide⟩ (dtk dt_X11_init 61 (124, .iconst 4, 1) rfl) ?_
  refine x_icmp_ge (tgt := 147) (dtk dt_X11_init 62 (125, .if_icmp .ge 22, 3) rfl) (by decide) (fun c125 => ?_) (fun c125 => ?_)
  · exact absurd c125 (by decide)
  refine x_aload_n (dtk dt_X11_init 63 (128, .aload_n 0, 1) rfl) rfl ?_
  refine fg_X11_39 rfl (dtk dt_X11_init 64 (129, .getfield 39, 3) rfl) rfl (v := 8) rfl ?_
  refine x_iload_n (dtk dt_X11_init 65 (132, .iload_n 1, 1) rfl) rfl ?_
  refine x_new (ci := 8) (dtk dt_X11_init 66 (133, .new 37, 3) rfl) cl_8 cd_8 w131 w202 w91 (by omega) ⟨by decide, by decide⟩ ?_
  refine x_dup rfl (dtk dt_X11_init 67 (136, .dup, 1) rfl) ?_
  refine kc_X11_70 rfl (dtk dt_X11_init 68 (137, .invokespecial 70, 3) rfl) (c_X8_init (G := G)  (by exact rfl) ⟨by decide, by decide⟩ (by decide)) rfl rfl (by decide) (fitG (by decide) (by decide) (by decide) (by decide)) (Nat.le_of_ble_eq_true rfl) (fun rr137 n137 K137 M137 hq137 => ?_)
  obtain ⟨rfl, rfl, rfl, rfl⟩ := hq137
  refine x_aast (dtk dt_X11_init 69 (140, .aastore, 1) rfl) rfl ⟨by omega, by omega⟩ (by exact rfl) cl_8 (Or.inr ⟨rfl, rfl⟩) ?_
  refine y_iinc (dtk dt_X11_init 70 (141, .iinc 1 1, 3) rfl) rfl (by decide) ⟨by omega, by omega⟩ ?_
  refine x_goto (tgt := 123) (dtk dt_X11_init 71 (144, .goto (-21), 3) rfl) (by decide) ?_
  refine x_iload_n (dtk dt_X11_init 60 (123, .iload_n 1, 1) rfl) rfl ?_
  refine x_iconst (v := 4) ⟨by decide, by decide⟩ (dtk dt_X11_init 61 (124, .iconst 4, 1) rfl) ?_
  refine x_icmp_ge (tgt := 147) (dtk dt_X11_init 62 (125, .if_icmp .ge 22, 3) rfl) (by decide) (fun c125 => ?_) (fun c125 => ?_)
  rotate_left
  · exact absurd (by decide) c125
  exact x_vret (dtk dt_X11_init 72 (147, .return_, 1) rfl) rfl ⟨rfl, rfl, by (intro q hq; simp only [kfL, mfL, List.take, List.drop, List.mem_cons, List.not_mem_nil, or_false] at hq; rcases hq with rfl | rfl | rfl | rfl | rfl | rfl | rfl | rfl | rfl | rfl | rfl | rfl | rfl | rfl | rfl | rfl | rfl | rfl | rfl | rfl | rfl | rfl | rfl | rfl | rfl | rfl | rfl | rfl | rfl | rfl | rfl | rfl | rfl | rfl | rfl | rfl <;> rfl), fun x hx => by ((repeat rw [upK_ne _ _ (by omega)]); rfl), by (intro q hq; simp only [kfL, mfL, List.take, List.drop, List.mem_cons, List.not_mem_nil, or_false] at hq; rcases hq with rfl | rfl | rfl | rfl | rfl | rfl | rfl | rfl | rfl | rfl | rfl | rfl | rfl | rfl | rfl | rfl | rfl | rfl | rfl | rfl | rfl | rfl | rfl | rfl | rfl | rfl | rfl | rfl | rfl | rfl | rfl | rfl | rfl | rfl | rfl <;> rfl), ⟨rfl, rfl, rfl, rfl, rfl, rfl, rfl⟩, by (intro q hq; simp only [List.mem_cons, List.not_mem_nil, or_false] at hq; rcases hq with rfl | rfl | rfl | rfl <;> exact ⟨rfl, rfl, fun i => rfl⟩)⟩
