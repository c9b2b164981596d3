/-! ===== the model: its constructor ===== -/
set_option maxRecDepth 100000 in
set_option maxHeartbeats 1000000 in
theorem c_X12_init {G : GG} {n : Nat} {K : KK} {M : MM}  (hn : n = 37) (hk : K 36 = (0, 12)) : MC G mi_X12_init 1 18 12613 [(1, 36)] n K M (ini12 K M) := by
  refine MC.intro (lc := [(0, (1, 36))]) (by decide) rfl (by simp [Nat.ble]) (Nat.le_of_ble_eq_true rfl) rfl (fun hMR => ?_)
  subst hn
  refine x_aload_n (dtk dt_X12_init 0 (0, .aload_n 0, 1) rfl) rfl ?_
  refine x_objInit (dtk dt_X12_init 1 (1, .invokespecial 1, 3) rfl) (by omega) (Nat.le_of_ble_eq_true rfl) ⟨by decide, by decide⟩ w1124 w107 w108 ?_
  refine x_aload_n (dtk dt_X12_init 2 (4, .aload_n 0, 1) rfl) rfl ?_
  refine x_bipush (v := 8) ⟨by decide, by decide⟩ (dtk dt_X12_init 3 (5, .bipush 8, 2) rfl) ?_
  refine x_newi (dtk dt_X12_init 4 (7, .newarray .int, 2) rfl) rfl ⟨by decide, by decide⟩ w130 (by omega) ⟨by decide, by decide⟩ ?_
  refine fp_X12_7 rfl rfl (dtk dt_X12_init 5 (9, .putfield 7, 3) rfl) hk ?_
  refine x_aload_n (dtk dt_X12_init 6 (12, .aload_n 0, 1) rfl) rfl ?_
  refine x_bipush (v := 8) ⟨by decide, by decide⟩ (dtk dt_X12_init 7 (13, .bipush 8, 2) rfl) ?_
  refine x_newi (dtk dt_X12_init 8 (15, .newarray .int, 2) rfl) rfl ⟨by decide, by decide⟩ w130 (by omega) ⟨by decide, by decide⟩ ?_
  refine fp_X12_13 rfl rfl (dtk dt_X12_init 9 (17, .putfield 13, 3) rfl) hk ?_
  refine x_aload_n (dtk dt_X12_init 10 (20, .aload_n 0, 1) rfl) rfl ?_
  refine x_bipush (v := 80) ⟨by decide, by decide⟩ (dtk dt_X12_init 11 (21, .bipush 80, 2) rfl) ?_
  refine x_newi (dtk dt_X12_init 12 (23, .newarray .int, 2) rfl) rfl ⟨by decide, by decide⟩ w130 (by omega) ⟨by decide, by decide⟩ ?_
  refine fp_X12_16 rfl rfl (dtk dt_X12_init 13 (25, .putfield 16, 3) rfl) hk ?_
  refine x_aload_n (dtk dt_X12_init 14 (28, .aload_n 0, 1) rfl) rfl ?_
  refine x_iconst (v := -1) ⟨by decide, by decide⟩ (dtk dt_X12_init 15 (29, .iconst (-1), 1) rfl) ?_
  refine fp_X12_19 rfl (dtk dt_X12_init 16 (30, .putfield 19, 3) rfl) hk ?_
  refine x_aload_n (dtk dt_X12_init 17 (33, .aload_n 0, 1) rfl) rfl ?_
  refine x_bipush (v := 10) ⟨by decide, by decide⟩ (dtk dt_X12_init 18 (34, .bipush 10, 2) rfl) ?_
  refine x_newi (dtk dt_X12_init 19 (36, .newarray .int, 2) rfl) rfl ⟨by decide, by decide⟩ w130 (by omega) ⟨by decide, by decide⟩ ?_
  refine fp_X12_23 rfl rfl (dtk dt_X12_init 20 (38, .putfield 23, 3) rfl) hk ?_
  refine x_aload_n (dtk dt_X12_init 21 (41, .aload_n 0, 1) rfl) rfl ?_
  refine x_bipush (v := 10) ⟨by decide, by decide⟩ (dtk dt_X12_init 22 (42, .bipush 10, 2) rfl) ?_
  refine x_newi (dtk dt_X12_init 23 (44, .newarray .int, 2) rfl) rfl ⟨by decide, by decide⟩ w130 (by omega) ⟨by decide, by decide⟩ ?_
  refine fp_X12_26 rfl rfl (dtk dt_X12_init 24 (46, .putfield 26, 3) rfl) hk ?_
  refine x_aload_n (dtk dt_X12_init 25 (49, .aload_n 0, 1) rfl) rfl ?_
  refine x_iconst (v := 4) ⟨by decide, by decide⟩ (dtk dt_X12_init 26 (50, .iconst 4, 1) rfl) ?_
  refine x_newi (dtk dt_X12_init 27 (51, .newarray .int, 2) rfl) rfl ⟨by decide, by decide⟩ w130 (by omega) ⟨by decide, by decide⟩ ?_
  refine fp_X12_29 rfl rfl (dtk dt_X12_init 28 (53, .putfield 29, 3) rfl) hk ?_
  refine x_aload_n (dtk dt_X12_init 29 (56, .aload_n 0, 1) rfl) rfl ?_
  refine x_iconst (v := 4) ⟨by decide, by decide⟩ (dtk dt_X12_init 30 (57, .iconst 4, 1) rfl) ?_
  refine x_newi (dtk dt_X12_init 31 (58, .newarray .int, 2) rfl) rfl ⟨by decide, by decide⟩ w130 (by omega) ⟨by decide, by decide⟩ ?_
  refine fp_X12_32 rfl rfl (dtk dt_X12_init 32 (60, .putfield 32, 3) rfl) hk ?_
  refine x_aload_n (dtk dt_X12_init 33 (63, .aload_n 0, 1) rfl) rfl ?_
  refine x_bipush (v := 80) ⟨by decide, by decide⟩ (dtk dt_X12_init 34 (64, .bipush 80, 2) rfl) ?_
  refine x_newi (dtk dt_X12_init 35 (66, .newarray .int, 2) rfl) rfl ⟨by decide, by decide⟩ w130 (by omega) ⟨by decide, by decide⟩ ?_
  refine fp_X12_35 rfl rfl (dtk dt_X12_init 36 (68, .putfield 35, 3) rfl) hk ?_
  refine x_aload_n (dtk dt_X12_init 37 (71, .aload_n 0, 1) rfl) rfl ?_
  refine x_bipush (v := 60) ⟨by decide, by decide⟩ (dtk dt_X12_init 38 (72, .bipush 60, 2) rfl) ?_
  refine x_newi (dtk dt_X12_init 39 (74, .newarray .int, 2) rfl) rfl ⟨by decide, by decide⟩ w130 (by omega) ⟨by decide, by decide⟩ ?_
  refine fp_X12_38 rfl rfl (dtk dt_X12_init 40 (76, .putfield 38, 3) rfl) hk ?_
  refine x_aload_n (dtk dt_X12_init 41 (79, .aload_n 0, 1) rfl) rfl ?_
  refine x_bipush (v := 10) ⟨by decide, by decide⟩ (dtk dt_X12_init 42 (80, .bipush 10, 2) rfl) ?_
  refine x_newi (dtk dt_X12_init 43 (82, .newarray .int, 2) rfl) rfl ⟨by decide, by decide⟩ w130 (by omega) ⟨by decide, by decide⟩ ?_
  refine fp_X12_41 rfl rfl (dtk dt_X12_init 44 (84, .putfield 41, 3) rfl) hk ?_
  refine x_aload_n (dtk dt_X12_init 45 (87, .aload_n 0, 1) rfl) rfl ?_
  refine x_sipush (v := 1024) ⟨by decide, by decide⟩ (dtk dt_X12_init 46 (88, .sipush 1024, 3) rfl) ?_
  refine x_newi (dtk dt_X12_init 47 (91, .newarray .int, 2) rfl) rfl ⟨by decide, by decide⟩ w130 (by omega) ⟨by decide, by decide⟩ ?_
  refine fp_X12_44 rfl rfl (dtk dt_X12_init 48 (93, .putfield 44, 3) rfl) hk ?_
  refine x_aload_n (dtk dt_X12_init 49 (96, .aload_n 0, 1) rfl) rfl ?_
  refine x_sipush (v := 1024) ⟨by decide, by decide⟩ (dtk dt_X12_init 50 (97, .sipush 1024, 3) rfl) ?_
  refine x_newi (dtk dt_X12_init 51 (100, .newarray .int, 2) rfl) rfl ⟨by decide, by decide⟩ w130 (by omega) ⟨by decide, by decide⟩ ?_
  refine fp_X12_47 rfl rfl (dtk dt_X12_init 52 (102, .putfield 47, 3) rfl) hk ?_
  refine x_aload_n (dtk dt_X12_init 53 (105, .aload_n 0, 1) rfl) rfl ?_
  refine x_sipush (v := 10240) ⟨by decide, by decide⟩ (dtk dt_X12_init 54 (106, .sipush 10240, 3) rfl) ?_
  refine x_newi (dtk dt_X12_init 55 (109, .newarray .int, 2) rfl) rfl ⟨by decide, by decide⟩ w130 (by omega) ⟨by decide, by decide⟩ ?_
  refine fp_X12_50 rfl rfl (dtk dt_X12_init 56 (111, .putfield 50, 3) rfl) hk ?_
  refine x_aload_n (dtk dt_X12_init 57 (114, .aload_n 0, 1) rfl) rfl ?_
  refine x_bipush (v := 10) ⟨by decide, by decide⟩ (dtk dt_X12_init 58 (115, .bipush 10, 2) rfl) ?_
  refine x_newi (dtk dt_X12_init 59 (117, .newarray .int, 2) rfl) rfl ⟨by decide, by decide⟩ w130 (by omega) ⟨by decide, by decide⟩ ?_
  refine fp_X12_53 rfl rfl (dtk dt_X12_init 60 (119, .putfield 53, 3) rfl) hk ?_
  refine x_aload_n (dtk dt_X12_init 61 (122, .aload_n 0, 1) rfl) rfl ?_
  refine x_bipush (v := 11) ⟨by decide, by decide⟩ (dtk dt_X12_init 62 (123, .bipush 11, 2) rfl) ?_
  refine x_newi (dtk dt_X12_init 63 (125, .newarray .int, 2) rfl) rfl ⟨by decide, by decide⟩ w130 (by omega) ⟨by decide, by decide⟩ ?_
  refine fp_X12_56 rfl rfl (dtk dt_X12_init 64 (127, .putfield 56, 3) rfl) hk ?_
  refine x_aload_n (dtk dt_X12_init 65 (130, .aload_n 0, 1) rfl) rfl ?_
  refine x_bipush (v := 10) ⟨by decide, by decide⟩ (dtk dt_X12_init 66 (131, .bipush 10, 2) rfl) ?_
  refine x_newi (dtk dt_X12_init 67 (133, .newarray .int, 2) rfl) rfl ⟨by decide, by decide⟩ w130 (by omega) ⟨by decide, by decide⟩ ?_
  refine fp_X12_59 rfl rfl (dtk dt_X12_init 68 (135, .putfield 59, 3) rfl) hk ?_
  refine x_aload_n (dtk dt_X12_init 69 (138, .aload_n 0, 1) rfl) rfl ?_
  refine x_bipush (v := 10) ⟨by decide, by decide⟩ (dtk dt_X12_init 70 (139, .bipush 10, 2) rfl) ?_
  refine x_newi (dtk dt_X12_init 71 (141, .newarray .int, 2) rfl) rfl ⟨by decide, by decide⟩ w130 (by omega) ⟨by decide, by decide⟩ ?_
  refine fp_X12_62 rfl rfl (dtk dt_X12_init 72 (143, .putfield 62, 3) rfl) hk ?_
  refine x_aload_n (dtk dt_X12_init 73 (146, .aload_n 0, 1) rfl) rfl ?_
  refine x_bipush (v := 10) ⟨by decide, by decide⟩ (dtk dt_X12_init 74 (147, .bipush 10, 2) rfl) ?_
  refine x_newi (dtk dt_X12_init 75 (149, .newarray .int, 2) rfl) rfl ⟨by decide, by decide⟩ w130 (by omega) ⟨by decide, by decide⟩ ?_
  refine fp_X12_65 rfl rfl (dtk dt_X12_init 76 (151, .putfield 65, 3) rfl) hk ?_
  refine x_iconst (v := 0) ⟨by decide, by decide⟩ (dtk dt_X12_init 77 (154, .iconst 0, 1) rfl) ?_
  refine x_istore_n (dtk dt_X12_init 78 (155, .istore_n 1, 1) rfl) (by decide) ?_
  refine x_iload_n (dtk dt_X12_init 79 (156, .iload_n 1, 1) rfl) rfl ?_
  refine x_iconst (v := 4) ⟨by decide, by decide⟩ (dtk dt_X12_init 80 (157, .iconst 4, 1) rfl) ?_
  refine x_icmp_ge (tgt := 174) (dtk dt_X12_init 81 (158, .if_icmp .ge 16, 3) rfl) (by decide) (fun c158 => ?_) (fun c158 => ?_)
  · exact absurd c158 (by decide)
  refine x_aload_n (dtk dt_X12_init 82 (161, .aload_n 0, 1) rfl) rfl ?_
  refine fg_X12_29 rfl (dtk dt_X12_init 83 (162, .getfield 29, 3) rfl) hk (v := 42) rfl ?_
  refine x_iload_n (dtk dt_X12_init 84 (165, .iload_n 1, 1) rfl) rfl ?_
  refine x_iconst (v := -1) ⟨by decide, by decide⟩ (dtk dt_X12_init 85 (166, .iconst (-1), 1) rfl) ?_
  refine x_iast (dtk dt_X12_init 86 (167, .iastore, 1) rfl) rfl ⟨by omega, by omega⟩ ?_
  refine y_iinc (dtk dt_X12_init 87 (168, .iinc 1 1, 3) rfl) rfl (by decide) ⟨by omega, by omega⟩ ?_
  refine x_goto (tgt := 156) (dtk dt_X12_init 88 (171, .goto (-15), 3) rfl) (by decide) ?_
  refine x_iload_n (dtk dt_X12_init 79 (156, .iload_n 1, 1) rfl) rfl ?_
  refine x_iconst (v := 4) ⟨by decide, by decide⟩ (dtk dt_X12_init 80 (157, .iconst 4, 1) rfl) ?_
  refine x_icmp_ge (tgt := 174) (dtk dt_X12_init 81 (158, .if_icmp .ge 16, 3) rfl) (by decide) (fun c158 => ?_) (fun c158 => ?_)
  · exact absurd c158 (by decide)
  refine x_aload_n (dtk dt_X12_init 82 (161, .aload_n 0, 1) rfl) rfl ?_
  refine fg_X12_29 rfl (dtk dt_X12_init 83 (162, .getfield 29, 3) rfl) hk (v := 42) rfl ?_
  refine x_iload_n (dtk dt_X12_init 84 (165, .iload_n 1, 1) rfl) rfl ?_
  refine x_iconst (v := -1) ⟨by decide, by decide⟩ (dtk dt_X12_init 85 (166, .iconst (-1), 1) rfl) ?_
  refine x_iast (dtk dt_X12_init 86 (167, .iastore, 1) rfl) rfl ⟨by omega, by omega⟩ ?_
  refine y_iinc (dtk dt_X12_init 87 (168, .iinc 1 1, 3) rfl) rfl (by decide) ⟨by omega, by omega⟩ ?_
  refine x_goto (tgt := 156) (dtk dt_X12_init 88 (171, .goto (-15), 3) rfl) (by decide) ?_
  refine x_iload_n (dtk dt_X12_init 79 (156, .iload_n 1, 1) rfl) rfl ?_
  refine x_iconst (v := 4) ⟨by decide, by decide⟩ (dtk dt_X12_init 80 (157, .iconst 4, 1) rfl) ?_
  refine x_icmp_ge (tgt := 174) (dtk dt_X12_init 81 (158, .if_icmp .ge 16, 3) rfl) (by decide) (fun c158 => ?_) (fun c158 => ?_)
  · exact absurd c158 (by decide)
  refine x_aload_n (dtk dt_X12_init 82 (161, .aload_n 0, 1) rfl) rfl ?_
  refine fg_X12_29 rfl (dtk dt_X12_init 83 (162, .getfield 29, 3) rfl) hk (v := 42) rfl ?_
  refine x_iload_n (dtk dt_X12_init 84 (165, .iload_n 1, 1) rfl) rfl ?_
  refine x_iconst (v := -1) ⟨by decide, by decide⟩ (dtk dt_X12_init 85 (166, .iconst (-1), 1) rfl) ?_
  refine x_iast (dtk dt_X12_init 86 (167, .iastore, 1) rfl) rfl ⟨by omega, by omega⟩ ?_
  refine y_iinc (dtk dt_X12_init 87 (168, .iinc 1 1, 3) rfl) rfl (by decide) ⟨by omega, by omega⟩ ?_
  refine x_goto (tgt := 156) (dtk dt_X12_init 88 (171, .goto (-15), 3) rfl) (by decide) ?_
  refine x_iload_n (dtk dt_X12_init 79 (156, .iload_n 1, 1) rfl) rfl ?_
  refine x_iconst (v := 4) ⟨by decide, by decide⟩ (dtk dt_X12_init 80 (157, .iconst 4, 1) rfl) ?_
  refine x_icmp_ge (tgt := 174) (dtk dt_X12_init 81 (158, .if_icmp .ge 16, 3) rfl) (by decide) (fun c158 => ?_) (fun c158 => ?_)
  · exact absurd c158 (by decide)
  refine x_aload_n (dtk dt_X12_init 82 (161, .aload_n 0, 1) rfl) rfl ?_
  refine fg_X12_29 rfl (dtk dt_X12_init 83 (162, .getfield 29, 3) rfl) hk (v := 42) rfl ?_
  refine x_iload_n (dtk dt_X12_init 84 (165, .iload_n 1, 1) rfl) rfl ?_
  refine x_iconst (v := -1) ⟨by decide, by decide⟩ (dtk dt_X12_init 85 (166, .iconst (-1), 1) rfl) ?_
  refine x_iast (dtk dt_X12_init 86 (167, .iastore, 1) rfl) rfl ⟨by omega, by omega⟩ ?_
  refine y_iinc (dtk dt_X12_init 87 (168, .iinc 1 1, 3) rfl) rfl (by decide) ⟨by omega, by omega⟩ ?_
  refine x_goto (tgt := 156) (dtk dt_X12_init 88 (171, .goto (-15), 3) rfl) (by decide) ?_
  refine x_iload_n (dtk dt_X12_init 79 (156, .iload_n 1, 1) rfl) rfl ?_
  refine x_iconst (v := 4) ⟨by decide, by decide⟩ (dtk dt_X12_init 80 (157, .iconst 4, 1) rfl) ?_
  refine x_icmp_ge (tgt := 174) (dtk dt_X12_init 81 (158, .if_icmp .ge 16, 3) rfl) (by decide) (fun c158 => ?_) (fun c158 => ?_)
  rotate_left
  · exact absurd (by decide) c158
  exact x_vret (dtk dt_X12_init 89 (174, .return_, 1) rfl) rfl ⟨rfl, rfl, by (intro q hq; simp only [kfL, mfL, List.take, List.drop, List.mem_cons, List.not_mem_nil, or_false] at hq; rcases hq with rfl | rfl | rfl | rfl | rfl | rfl | rfl | rfl | rfl | rfl | rfl | rfl | rfl | rfl | rfl | rfl | rfl | rfl <;> rfl), fun x hx => by (repeat rw [upK_ne _ _ (by omega)]), fun x hx => by (repeat first | rw [st2_ne _ (by omega)] | rw [zM_ne _ (by omega)]), by (intro q hq; simp only [kfL, mfL, List.take, List.drop, List.mem_cons, List.not_mem_nil, or_false] at hq; rcases hq with rfl | rfl | rfl | rfl | rfl | rfl | rfl | rfl | rfl | rfl | rfl | rfl | rfl | rfl | rfl | rfl | rfl | rfl <;> rfl), ⟨rfl, by (intro k hk2; simp only [List.mem_cons, List.not_mem_nil, or_false] at hk2; rcases hk2 with rfl | rfl | rfl | rfl | rfl | rfl | rfl | rfl <;> rfl)⟩, by (intro a ha i; simp only [List.mem_cons, List.not_mem_nil, or_false] at ha; rcases ha with rfl | rfl | rfl | rfl | rfl | rfl | rfl | rfl <;> rfl), fun i i0 i4 => by (have hh : i = 0 ∨ i = 1 ∨ i = 2 ∨ i = 3 := (by omega); rcases hh with rfl | rfl | rfl | rfl <;> rfl)⟩
