/-! ===== the class: images, first rows ===== -/
set_option maxRecDepth 100000 in
set_option maxHeartbeats 4000000 in
theorem c_X7_sumOfMarks {G : GG} {n : Nat} {K : KK} {M : MM} {s q : Int} (hk : K q = (1, 10)) (hs : 0 ≤ s ∧ s < 1024) : MC G mi_X7_sumOfMarks 1 0 0 [(0, s), (1, q)] n K M (PQ (some (0, smk s (M q))) n K (M)) := by
  refine MC.intro (lc := [(0, (0, s)), (1, (1, q))]) (by decide) rfl (by simp [Nat.ble]) (Nat.le_of_ble_eq_true rfl) rfl (fun hMR => ?_)
  refine x_iconst (v := 0) ⟨by decide, by decide⟩ (dtk dt_X7_sumOfMarks 0 (0, .iconst 0, 1) rfl) ?_
  refine x_istore_n (dtk dt_X7_sumOfMarks 1 (1, .istore_n 2, 1) rfl) (by decide) ?_
  refine x_iconst (v := 0) ⟨by decide, by decide⟩ (dtk dt_X7_sumOfMarks 2 (2, .iconst 0, 1) rfl) ?_
  refine x_istore_n (dtk dt_X7_sumOfMarks 3 (3, .istore_n 3, 1) rfl) (by decide) ?_
  have L4 : ∀ (fu : Nat) (v2 : Int) (v3 : Int), (0 ≤ v3 ∧ v3 ≤ 10) → (v2 = foldZ v3 (fun v t => if bt s t then wr (v + wr (wr (M q t * M q t) + 7)) else v) 0) → (10 - v3).toNat = fu → MW G mi_X7_sumOfMarks (rmd 1 0 0) (MZ G (PQ (some (0, smk s (M q))) n K (M)) 0 0) (0, 0) 4 [(0, (0, s)), (1, (1, q)), (2, (0, v2)), (3, (0, v3))] [] n K (M) := by
    intro fu
    induction fu using Nat.strongRecOn with
    | ind fu ih4 =>
      intro v2 v3 h1 h2 hk4
      refine x_iload_n (dtk dt_X7_sumOfMarks 4 (4, .iload_n 3, 1) rfl) rfl ?_
      refine x_bipush (v := 10) ⟨by decide, by decide⟩ (dtk dt_X7_sumOfMarks 5 (5, .bipush 10, 2) rfl) ?_
      refine x_icmp_ge (tgt := 37) (dtk dt_X7_sumOfMarks 6 (7, .if_icmp .ge 30, 3) rfl) (by decide) (fun c7 => ?_) (fun c7 => ?_)
      · skip
        refine x_iload_n (dtk dt_X7_sumOfMarks 27 (37, .iload_n 2, 1) rfl) rfl ?_
        exact r_i (dtk dt_X7_sumOfMarks 28 (38, .ireturn, 1) rfl) rfl (by rw [h2, show v3 = 10 by omega]; rfl) rfl
      · skip
        refine x_iload_n (dtk dt_X7_sumOfMarks 7 (10, .iload_n 0, 1) rfl) rfl ?_
        refine x_iload_n (dtk dt_X7_sumOfMarks 8 (11, .iload_n 3, 1) rfl) rfl ?_
        refine x_ishr (dtk dt_X7_sumOfMarks 9 (12, .ishr, 1) rfl) ?_
        refine x_iconst (v := 1) ⟨by decide, by decide⟩ (dtk dt_X7_sumOfMarks 10 (13, .iconst 1, 1) rfl) ?_
        refine x_iand (dtk dt_X7_sumOfMarks 11 (14, .iand, 1) rfl) ?_
        rw [zbit (nn10 hs) ⟨by omega, by omega⟩]
        change MW G _ _ _ _ _ _ ((0, B (bt (s) (v3))) :: _) _ _ _
        refine x_if_eqB (tgt := 31) (dtk dt_X7_sumOfMarks 12 (15, .ifCond .eq 16, 3) rfl) (by decide) (fun c15 => ?_) (fun c15 => ?_)
        · skip
          refine y_iinc (dtk dt_X7_sumOfMarks 25 (31, .iinc 3 1, 3) rfl) rfl (by decide) ⟨by omega, by omega⟩ ?_
          refine x_goto (tgt := 4) (dtk dt_X7_sumOfMarks 26 (34, .goto (-30), 3) rfl) (by decide) ?_
          refine MW.sub [1, 2, 3, 0] rfl ?_
          exact ih4 _ (by omega) _ _ (by omega) (by rw [foldZ_s h1.1, ← h2]; first | (rw [if_pos c15]; done) | (rw [if_neg (by rw [c15]; decide)])) rfl
        · skip
          refine x_iload_n (dtk dt_X7_sumOfMarks 13 (18, .iload_n 2, 1) rfl) rfl ?_
          refine x_aload_n (dtk dt_X7_sumOfMarks 14 (19, .aload_n 1, 1) rfl) rfl ?_
          refine x_iload_n (dtk dt_X7_sumOfMarks 15 (20, .iload_n 3, 1) rfl) rfl ?_
          refine x_iald (dtk dt_X7_sumOfMarks 16 (21, .iaload, 1) rfl) hk ⟨by omega, by omega⟩ ?_
          refine x_aload_n (dtk dt_X7_sumOfMarks 17 (22, .aload_n 1, 1) rfl) rfl ?_
          refine x_iload_n (dtk dt_X7_sumOfMarks 18 (23, .iload_n 3, 1) rfl) rfl ?_
          refine x_iald (dtk dt_X7_sumOfMarks 19 (24, .iaload, 1) rfl) hk ⟨by omega, by omega⟩ ?_
          refine w_imul (dtk dt_X7_sumOfMarks 20 (25, .imul, 1) rfl) ?_
          refine x_bipush (v := 7) ⟨by decide, by decide⟩ (dtk dt_X7_sumOfMarks 21 (26, .bipush 7, 2) rfl) ?_
          refine w_iadd (dtk dt_X7_sumOfMarks 22 (28, .iadd, 1) rfl) ?_
          refine w_iadd (dtk dt_X7_sumOfMarks 23 (29, .iadd, 1) rfl) ?_
          refine x_istore_n (dtk dt_X7_sumOfMarks 24 (30, .istore_n 2, 1) rfl) (by decide) ?_
          refine y_iinc (dtk dt_X7_sumOfMarks 25 (31, .iinc 3 1, 3) rfl) rfl (by decide) ⟨by omega, by omega⟩ ?_
          refine x_goto (tgt := 4) (dtk dt_X7_sumOfMarks 26 (34, .goto (-30), 3) rfl) (by decide) ?_
          refine MW.sub [2, 3, 1, 0] rfl ?_
          exact ih4 _ (by omega) _ _ (by omega) (by rw [foldZ_s h1.1, ← h2]; first | (rw [if_pos c15]; done) | (rw [if_neg (by rw [c15]; decide)])) rfl
  refine MW.sub [2, 3, 1, 0] rfl ?_
  exact L4 _ _ _ (by omega) rfl rfl
set_option maxRecDepth 100000 in
set_option maxHeartbeats 4000000 in
theorem c_X7_giveMarks_23 {G : GG} {n : Nat} {K : KK} {M : MM} {p nm m : Int} {ci : Nat} {d : Int → Int} (hO : OB K M p ci nm m d) : MC G mi_X7_giveMarks 2 0 0 [(1, 18), (1, p), (1, 23)] n K M (UQ sx none n K M (fun M' => (∀ t, 0 ≤ t → t < m → M' 23 t = mkS m d 3 t) ∧ ∀ x, x ≠ 23 → x ≠ 25 → M' x = M x)) := by
  refine MC.intro (lc := [(0, (1, 18)), (1, (1, p)), (2, (1, 23))]) (by decide) rfl (by simp [Nat.ble]) (Nat.le_of_ble_eq_true rfl) rfl (fun hMR => ?_)
  have hsz := hO.sz
  refine x_iconst (v := 0) ⟨by decide, by decide⟩ (dtk dt_X7_giveMarks 0 (0, .iconst 0, 1) rfl) ?_
  refine x_istore_n (dtk dt_X7_giveMarks 1 (1, .istore_n 3, 1) rfl) (by decide) ?_
  have L2 : ∀ (fu : Nat) (v3 : Int) (M1 : MM), (0 ≤ v3 ∧ v3 ≤ m) → (sx M M1) → (∀ x, x ≠ 23 → x ≠ 25 → M1 x = M x) → (∀ t, 0 ≤ t → t < v3 → M1 23 t = 1) → (m - v3).toNat = fu → MW G mi_X7_giveMarks (rmd 2 0 0) (MZ G (UQ sx none n K M (fun M' => (∀ t, 0 ≤ t → t < m → M' 23 t = mkS m d 3 t) ∧ ∀ x, x ≠ 23 → x ≠ 25 → M' x = M x)) 0 0) (0, 0) 2 [(0, (1, 18)), (1, (1, p)), (2, (1, 23)), (3, (0, v3))] [] n K (M1) := by
    intro fu
    induction fu using Nat.strongRecOn with
    | ind fu ih2 =>
      intro v3 M1 h1 hs1 hk1 hw1 hk2
      refine x_iload_n (dtk dt_X7_giveMarks 2 (2, .iload_n 3, 1) rfl) rfl ?_
      refine x_aload_n (dtk dt_X7_giveMarks 3 (3, .aload_n 1, 1) rfl) rfl ?_
      refine fg_X7_58 rfl (dtk dt_X7_giveMarks 4 (4, .getfield 58, 3) rfl) hO.k hO.c (hO.off_sx hs1).n ?_
      refine x_icmp_ge (tgt := 20) (dtk dt_X7_giveMarks 5 (7, .if_icmp .ge 13, 3) rfl) (by decide) (fun c7 => ?_) (fun c7 => ?_)
      · skip
        refine x_iconst (v := 0) ⟨by decide, by decide⟩ (dtk dt_X7_giveMarks 12 (20, .iconst 0, 1) rfl) ?_
        refine x_istore_n (dtk dt_X7_giveMarks 13 (21, .istore_n 3, 1) rfl) (by decide) ?_
        have L22 : ∀ (fu : Nat) (v3 : Int) (M2 : MM), (0 ≤ v3 ∧ v3 ≤ 3) → (sx M M2) → (∀ x, x ≠ 23 → x ≠ 25 → M2 x = M x) → (∀ t, 0 ≤ t → t < m → M2 23 t = mkS m d v3 t) → (3 - v3).toNat = fu → MW G mi_X7_giveMarks (rmd 2 0 0) (MZ G (UQ sx none n K M (fun M' => (∀ t, 0 ≤ t → t < m → M' 23 t = mkS m d 3 t) ∧ ∀ x, x ≠ 23 → x ≠ 25 → M' x = M x)) 0 0) (0, 0) 22 [(0, (1, 18)), (1, (1, p)), (2, (1, 23)), (3, (0, v3))] [] n K (M2) := by
          intro fu
          induction fu using Nat.strongRecOn with
          | ind fu ih22 =>
            intro v3 M2 h3 hs2 hk2 hw2 hk22
            refine x_iload_n (dtk dt_X7_giveMarks 14 (22, .iload_n 3, 1) rfl) rfl ?_
            refine x_iconst (v := 3) ⟨by decide, by decide⟩ (dtk dt_X7_giveMarks 15 (23, .iconst 3, 1) rfl) ?_
            refine x_icmp_ge (tgt := 122) (dtk dt_X7_giveMarks 16 (24, .if_icmp .ge 98, 3) rfl) (by decide) (fun c24 => ?_) (fun c24 => ?_)
            · skip
              exact ru_v (dtk dt_X7_giveMarks 69 (122, .return_, 1) rfl) rfl hs2 (by rw [show v3 = 3 by omega] at hw2; exact ⟨hw2, hk2⟩)
            · skip
              refine x_iconst (v := 0) ⟨by decide, by decide⟩ (dtk dt_X7_giveMarks 17 (27, .iconst 0, 1) rfl) ?_
              refine x_istore (dtk dt_X7_giveMarks 18 (28, .istore 4, 2) rfl) (by decide) ?_
              have L30 : ∀ (fu : Nat) (v4 : Int) (M3 : MM), (0 ≤ v4 ∧ v4 ≤ m) → (sx M M3) → (∀ x, x ≠ 23 → x ≠ 25 → M3 x = M x) → (M3 23 = M2 23) → (∀ t, 0 ≤ t → t < v4 → M3 25 t = nmk m d (mkS m d v3) t) → (m - v4).toNat = fu → MW G mi_X7_giveMarks (rmd 2 0 0) (MZ G (UQ sx none n K M (fun M' => (∀ t, 0 ≤ t → t < m → M' 23 t = mkS m d 3 t) ∧ ∀ x, x ≠ 23 → x ≠ 25 → M' x = M x)) 0 0) (0, 0) 30 [(0, (1, 18)), (1, (1, p)), (2, (1, 23)), (3, (0, v3)), (4, (0, v4))] [] n K (M3) := by
                intro fu
                induction fu using Nat.strongRecOn with
                | ind fu ih30 =>
                  intro v4 M3 h5 hs3 hk3 hq3 hw3 hk30
                  refine x_iload (dtk dt_X7_giveMarks 19 (30, .iload 4, 2) rfl) rfl ?_
                  refine x_aload_n (dtk dt_X7_giveMarks 20 (32, .aload_n 1, 1) rfl) rfl ?_
                  refine fg_X7_58 rfl (dtk dt_X7_giveMarks 21 (33, .getfield 58, 3) rfl) hO.k hO.c (hO.off_sx hs3).n ?_
                  refine x_icmp_ge (tgt := 87) (dtk dt_X7_giveMarks 22 (36, .if_icmp .ge 51, 3) rfl) (by decide) (fun c36 => ?_) (fun c36 => ?_)
                  · skip
                    refine x_iconst (v := 0) ⟨by decide, by decide⟩ (dtk dt_X7_giveMarks 52 (87, .iconst 0, 1) rfl) ?_
                    refine x_istore (dtk dt_X7_giveMarks 53 (88, .istore 4, 2) rfl) (by decide) ?_
                    have L90 : ∀ (fu : Nat) (v4 : Int) (M4 : MM), (0 ≤ v4 ∧ v4 ≤ m) → (sx M M4) → (∀ x, x ≠ 23 → x ≠ 25 → M4 x = M x) → (∀ t, 0 ≤ t → t < m → M4 25 t = nmk m d (mkS m d v3) t) → (∀ t, 0 ≤ t → t < v4 → M4 23 t = nmk m d (mkS m d v3) t) → (m - v4).toNat = fu → MW G mi_X7_giveMarks (rmd 2 0 0) (MZ G (UQ sx none n K M (fun M' => (∀ t, 0 ≤ t → t < m → M' 23 t = mkS m d 3 t) ∧ ∀ x, x ≠ 23 → x ≠ 25 → M' x = M x)) 0 0) (0, 0) 90 [(0, (1, 18)), (1, (1, p)), (2, (1, 23)), (3, (0, v3)), (4, (0, v4))] [] n K (M4) := by
                      intro fu
                      induction fu using Nat.strongRecOn with
                      | ind fu ih90 =>
                        intro v4 M4 h7 hs4 hk4 hn4 hw4 hk90
                        refine x_iload (dtk dt_X7_giveMarks 54 (90, .iload 4, 2) rfl) rfl ?_
                        refine x_aload_n (dtk dt_X7_giveMarks 55 (92, .aload_n 1, 1) rfl) rfl ?_
                        refine fg_X7_58 rfl (dtk dt_X7_giveMarks 56 (93, .getfield 58, 3) rfl) hO.k hO.c (hO.off_sx hs4).n ?_
                        refine x_icmp_ge (tgt := 116) (dtk dt_X7_giveMarks 57 (96, .if_icmp .ge 20, 3) rfl) (by decide) (fun c96 => ?_) (fun c96 => ?_)
                        · skip
                          refine y_iinc (dtk dt_X7_giveMarks 67 (116, .iinc 3 1, 3) rfl) rfl (by decide) ⟨by omega, by omega⟩ ?_
                          refine x_goto (tgt := 22) (dtk dt_X7_giveMarks 68 (119, .goto (-97), 3) rfl) (by decide) ?_
                          refine MW.sub [1, 2, 3, 0] rfl ?_
                          exact ih22 _ (by omega) _ _ (by omega) hs4 hk4 (fun t t0 t1 => by rw [hw4 t t0 (by omega), mkS_s h3.1 ⟨t0, t1⟩]) rfl
                        · skip
                          refine x_aload_n (dtk dt_X7_giveMarks 58 (99, .aload_n 2, 1) rfl) rfl ?_
                          refine x_iload (dtk dt_X7_giveMarks 59 (100, .iload 4, 2) rfl) rfl ?_
                          refine x_aload_n (dtk dt_X7_giveMarks 60 (102, .aload_n 0, 1) rfl) rfl ?_
                          refine fg_X7_33 rfl (dtk dt_X7_giveMarks 61 (103, .getfield 33, 3) rfl) (wk_18 hO.wf) (wm_18_5 (hO.off_sx hs4).wf) ?_
                          refine x_iload (dtk dt_X7_giveMarks 62 (106, .iload 4, 2) rfl) rfl ?_
                          refine x_iald (dtk dt_X7_giveMarks 63 (108, .iaload, 1) rfl) (wk_25 hO.wf) ⟨by omega, by omega⟩ ?_
                          refine x_iast (dtk dt_X7_giveMarks 64 (109, .iastore, 1) rfl) (wk_23 hO.wf) ⟨by omega, by omega⟩ ?_
                          refine y_iinc (dtk dt_X7_giveMarks 65 (110, .iinc 4 1, 3) rfl) rfl (by decide) ⟨by omega, by omega⟩ ?_
                          refine x_goto (tgt := 90) (dtk dt_X7_giveMarks 66 (113, .goto (-23), 3) rfl) (by decide) ?_
                          refine MW.sub [1, 2, 3, 4, 0] rfl ?_
                          exact ih90 _ (by omega) _ _ (by omega) (sx.st 23 rfl hs4) (fun x hx hy => by rw [st2_ne _ hx]; exact hk4 x hx hy) (by rw [st2_ne _ (show (25 : Int) ≠ 23 by decide)]; exact hn4) (fun t t0 t1 => by rw [st2_up]; show (if t = v4 then _ else _) = _; by_cases hq : t = v4; (focus (rw [if_pos hq, hq]; exact hn4 v4 h7.1 (by omega))); (rw [if_neg hq]; exact hw4 t t0 (by omega))) rfl
                    refine MW.sub [1, 2, 3, 4, 0] rfl ?_
                    exact L90 _ _ _ (by omega) hs3 hk3 (fun t t0 t1 => hw3 t t0 (by omega)) (fun t t0 t1 => by omega) rfl
                  · skip
                    refine x_aload_n (dtk dt_X7_giveMarks 23 (39, .aload_n 0, 1) rfl) rfl ?_
                    refine fg_X7_33 rfl (dtk dt_X7_giveMarks 24 (40, .getfield 33, 3) rfl) (wk_18 hO.wf) (wm_18_5 (hO.off_sx hs3).wf) ?_
                    refine x_iload (dtk dt_X7_giveMarks 25 (43, .iload 4, 2) rfl) rfl ?_
                    refine x_aload_n (dtk dt_X7_giveMarks 26 (45, .aload_n 2, 1) rfl) rfl ?_
                    refine x_iload (dtk dt_X7_giveMarks 27 (46, .iload 4, 2) rfl) rfl ?_
                    refine x_iald (dtk dt_X7_giveMarks 28 (48, .iaload, 1) rfl) (wk_23 hO.wf) ⟨by omega, by omega⟩ ?_
                    refine x_bipush (v := 31) ⟨by decide, by decide⟩ (dtk dt_X7_giveMarks 29 (49, .bipush 31, 2) rfl) ?_
                    refine w_imul (dtk dt_X7_giveMarks 30 (51, .imul, 1) rfl) ?_
                    refine x_aload_n (dtk dt_X7_giveMarks 31 (52, .aload_n 1, 1) rfl) rfl ?_
                    refine fg_X7_62 rfl (dtk dt_X7_giveMarks 32 (53, .getfield 62, 3) rfl) hO.k hO.c (hO.off_sx hs3).dn ?_
                    refine x_iload (dtk dt_X7_giveMarks 33 (56, .iload 4, 2) rfl) rfl ?_
                    refine x_iald (dtk dt_X7_giveMarks 34 (58, .iaload, 1) rfl) hO.kd ⟨by omega, by omega⟩ ?_
                    rw [(hO.off_sx hs3).dat ⟨by omega, by omega⟩]
                    refine x_aload_n (dtk dt_X7_giveMarks 35 (59, .aload_n 2, 1) rfl) rfl ?_
                    refine kc_X7_130 rfl (dtk dt_X7_giveMarks 36 (60, .invokestatic 130, 3) rfl) (c_X7_sumOfMarks (G := G) (q := 23) (wk_23 hO.wf) (hO.ok.2.1 v4 (by omega) (by omega))) rfl rfl (fitR (by decide) (by decide)) (Nat.le_of_ble_eq_true rfl) (pqK ?_)
                    refine x_iconst (v := 3) ⟨by decide, by decide⟩ (dtk dt_X7_giveMarks 37 (63, .iconst 3, 1) rfl) ?_
                    refine w_imul (dtk dt_X7_giveMarks 38 (64, .imul, 1) rfl) ?_
                    refine w_iadd (dtk dt_X7_giveMarks 39 (65, .iadd, 1) rfl) ?_
                    refine x_aload_n (dtk dt_X7_giveMarks 40 (66, .aload_n 1, 1) rfl) rfl ?_
                    refine fg_X7_65 rfl (dtk dt_X7_giveMarks 41 (67, .getfield 65, 3) rfl) hO.k hO.c (hO.off_sx hs3).upp ?_
                    refine x_iload (dtk dt_X7_giveMarks 42 (70, .iload 4, 2) rfl) rfl ?_
                    refine x_iald (dtk dt_X7_giveMarks 43 (72, .iaload, 1) rfl) hO.ku ⟨by omega, by omega⟩ ?_
                    rw [(hO.off_sx hs3).uat ⟨by omega, by omega⟩]
                    refine x_aload_n (dtk dt_X7_giveMarks 44 (73, .aload_n 2, 1) rfl) rfl ?_
                    refine kc_X7_130 rfl (dtk dt_X7_giveMarks 45 (74, .invokestatic 130, 3) rfl) (c_X7_sumOfMarks (G := G) (q := 23) (wk_23 hO.wf) (mk_lt hsz _)) rfl rfl (fitR (by decide) (by decide)) (Nat.le_of_ble_eq_true rfl) (pqK ?_)
                    refine x_iconst (v := 5) ⟨by decide, by decide⟩ (dtk dt_X7_giveMarks 46 (77, .iconst 5, 1) rfl) ?_
                    refine w_imul (dtk dt_X7_giveMarks 47 (78, .imul, 1) rfl) ?_
                    refine w_iadd (dtk dt_X7_giveMarks 48 (79, .iadd, 1) rfl) ?_
                    refine x_iast (dtk dt_X7_giveMarks 49 (80, .iastore, 1) rfl) (wk_25 hO.wf) ⟨by omega, by omega⟩ ?_
                    refine y_iinc (dtk dt_X7_giveMarks 50 (81, .iinc 4 1, 3) rfl) rfl (by decide) ⟨by omega, by omega⟩ ?_
                    refine x_goto (tgt := 30) (dtk dt_X7_giveMarks 51 (84, .goto (-54), 3) rfl) (by decide) ?_
                    refine MW.sub [1, 2, 3, 4, 0] rfl ?_
                    exact ih30 _ (by omega) _ _ (by omega) (sx.st 25 rfl hs3) (fun x hx hy => by rw [st2_ne _ hy]; exact hk3 x hx hy) (by rw [st2_ne _ (show (23 : Int) ≠ 25 by decide)]; exact hq3) (fun t t0 t1 => by rw [st2_up]; show (if t = v4 then _ else _) = _; by_cases hq : t = v4; (focus (rw [if_pos hq, hq, hq3, ← nmk_congr hO.ok (F := M2 23) (fun u u0 u1 => hw2 u u0 u1) ⟨h5.1, by omega⟩]; rfl)); (rw [if_neg hq]; exact hw3 t t0 (by omega))) rfl
              refine MW.sub [1, 2, 3, 4, 0] rfl ?_
              exact L30 _ _ _ (by omega) hs2 hk2 rfl (fun t t0 t1 => by omega) rfl
        refine MW.sub [1, 2, 3, 0] rfl ?_
        exact L22 _ _ _ (by omega) hs1 hk1 (fun t t0 t1 => by rw [hw1 t t0 (by omega), mkS_0 ⟨t0, t1⟩]) rfl
      · skip
        refine x_aload_n (dtk dt_X7_giveMarks 6 (10, .aload_n 2, 1) rfl) rfl ?_
        refine x_iload_n (dtk dt_X7_giveMarks 7 (11, .iload_n 3, 1) rfl) rfl ?_
        refine x_iconst (v := 1) ⟨by decide, by decide⟩ (dtk dt_X7_giveMarks 8 (12, .iconst 1, 1) rfl) ?_
        refine x_iast (dtk dt_X7_giveMarks 9 (13, .iastore, 1) rfl) (wk_23 hO.wf) ⟨by omega, by omega⟩ ?_
        refine y_iinc (dtk dt_X7_giveMarks 10 (14, .iinc 3 1, 3) rfl) rfl (by decide) ⟨by omega, by omega⟩ ?_
        refine x_goto (tgt := 2) (dtk dt_X7_giveMarks 11 (17, .goto (-15), 3) rfl) (by decide) ?_
        refine MW.sub [1, 2, 3, 0] rfl ?_
        exact ih2 _ (by omega) _ _ (by omega) (sx.st 23 rfl hs1) (fun x hx hy => by rw [st2_ne _ hx]; exact hk1 x hx hy) (fun t t0 t1 => by rw [st2_up]; show (if t = v3 then _ else _) = _; split; rfl; exact hw1 t t0 (by omega)) rfl
  refine MW.sub [1, 2, 3, 0] rfl ?_
  exact L2 _ _ _ (by omega) sx.rf (fun x _ _ => rfl) (fun t t0 t1 => by omega) rfl
set_option maxRecDepth 100000 in
set_option maxHeartbeats 4000000 in
theorem c_X7_giveMarks_24 {G : GG} {n : Nat} {K : KK} {M : MM} {p nm m : Int} {ci : Nat} {d : Int → Int} (hO : OB K M p ci nm m d) : MC G mi_X7_giveMarks 2 0 0 [(1, 18), (1, p), (1, 24)] n K M (UQ sx none n K M (fun M' => (∀ t, 0 ≤ t → t < m → M' 24 t = mkS m d 3 t) ∧ ∀ x, x ≠ 24 → x ≠ 25 → M' x = M x)) := by
  refine MC.intro (lc := [(0, (1, 18)), (1, (1, p)), (2, (1, 24))]) (by decide) rfl (by simp [Nat.ble]) (Nat.le_of_ble_eq_true rfl) rfl (fun hMR => ?_)
  have hsz := hO.sz
  refine x_iconst (v := 0) ⟨by decide, by decide⟩ (dtk dt_X7_giveMarks 0 (0, .iconst 0, 1) rfl) ?_
  refine x_istore_n (dtk dt_X7_giveMarks 1 (1, .istore_n 3, 1) rfl) (by decide) ?_
  have L2 : ∀ (fu : Nat) (v3 : Int) (M1 : MM), (0 ≤ v3 ∧ v3 ≤ m) → (sx M M1) → (∀ x, x ≠ 24 → x ≠ 25 → M1 x = M x) → (∀ t, 0 ≤ t → t < v3 → M1 24 t = 1) → (m - v3).toNat = fu → MW G mi_X7_giveMarks (rmd 2 0 0) (MZ G (UQ sx none n K M (fun M' => (∀ t, 0 ≤ t → t < m → M' 24 t = mkS m d 3 t) ∧ ∀ x, x ≠ 24 → x ≠ 25 → M' x = M x)) 0 0) (0, 0) 2 [(0, (1, 18)), (1, (1, p)), (2, (1, 24)), (3, (0, v3))] [] n K (M1) := by
    intro fu
    induction fu using Nat.strongRecOn with
    | ind fu ih2 =>
      intro v3 M1 h1 hs1 hk1 hw1 hk2
      refine x_iload_n (dtk dt_X7_giveMarks 2 (2, .iload_n 3, 1) rfl) rfl ?_
      refine x_aload_n (dtk dt_X7_giveMarks 3 (3, .aload_n 1, 1) rfl) rfl ?_
      refine fg_X7_58 rfl (dtk dt_X7_giveMarks 4 (4, .getfield 58, 3) rfl) hO.k hO.c (hO.off_sx hs1).n ?_
      refine x_icmp_ge (tgt := 20) (dtk dt_X7_giveMarks 5 (7, .if_icmp .ge 13, 3) rfl) (by decide) (fun c7 => ?_) (fun c7 => ?_)
      · skip
        refine x_iconst (v := 0) ⟨by decide, by decide⟩ (dtk dt_X7_giveMarks 12 (20, .iconst 0, 1) rfl) ?_
        refine x_istore_n (dtk dt_X7_giveMarks 13 (21, .istore_n 3, 1) rfl) (by decide) ?_
        have L22 : ∀ (fu : Nat) (v3 : Int) (M2 : MM), (0 ≤ v3 ∧ v3 ≤ 3) → (sx M M2) → (∀ x, x ≠ 24 → x ≠ 25 → M2 x = M x) → (∀ t, 0 ≤ t → t < m → M2 24 t = mkS m d v3 t) → (3 - v3).toNat = fu → MW G mi_X7_giveMarks (rmd 2 0 0) (MZ G (UQ sx none n K M (fun M' => (∀ t, 0 ≤ t → t < m → M' 24 t = mkS m d 3 t) ∧ ∀ x, x ≠ 24 → x ≠ 25 → M' x = M x)) 0 0) (0, 0) 22 [(0, (1, 18)), (1, (1, p)), (2, (1, 24)), (3, (0, v3))] [] n K (M2) := by
          intro fu
          induction fu using Nat.strongRecOn with
          | ind fu ih22 =>
            intro v3 M2 h3 hs2 hk2 hw2 hk22
            refine x_iload_n (dtk dt_X7_giveMarks 14 (22, .iload_n 3, 1) rfl) rfl ?_
            refine x_iconst (v := 3) ⟨by decide, by decide⟩ (dtk dt_X7_giveMarks 15 (23, .iconst 3, 1) rfl) ?_
            refine x_icmp_ge (tgt := 122) (dtk dt_X7_giveMarks 16 (24, .if_icmp .ge 98, 3) rfl) (by decide) (fun c24 => ?_) (fun c24 => ?_)
            · skip
              exact ru_v (dtk dt_X7_giveMarks 69 (122, .return_, 1) rfl) rfl hs2 (by rw [show v3 = 3 by omega] at hw2; exact ⟨hw2, hk2⟩)
            · skip
              refine x_iconst (v := 0) ⟨by decide, by decide⟩ (dtk dt_X7_giveMarks 17 (27, .iconst 0, 1) rfl) ?_
              refine x_istore (dtk dt_X7_giveMarks 18 (28, .istore 4, 2) rfl) (by decide) ?_
              have L30 : ∀ (fu : Nat) (v4 : Int) (M3 : MM), (0 ≤ v4 ∧ v4 ≤ m) → (sx M M3) → (∀ x, x ≠ 24 → x ≠ 25 → M3 x = M x) → (M3 24 = M2 24) → (∀ t, 0 ≤ t → t < v4 → M3 25 t = nmk m d (mkS m d v3) t) → (m - v4).toNat = fu → MW G mi_X7_giveMarks (rmd 2 0 0) (MZ G (UQ sx none n K M (fun M' => (∀ t, 0 ≤ t → t < m → M' 24 t = mkS m d 3 t) ∧ ∀ x, x ≠ 24 → x ≠ 25 → M' x = M x)) 0 0) (0, 0) 30 [(0, (1, 18)), (1, (1, p)), (2, (1, 24)), (3, (0, v3)), (4, (0, v4))] [] n K (M3) := by
                intro fu
                induction fu using Nat.strongRecOn with
                | ind fu ih30 =>
                  intro v4 M3 h5 hs3 hk3 hq3 hw3 hk30
                  refine x_iload (dtk dt_X7_giveMarks 19 (30, .iload 4, 2) rfl) rfl ?_
                  refine x_aload_n (dtk dt_X7_giveMarks 20 (32, .aload_n 1, 1) rfl) rfl ?_
                  refine fg_X7_58 rfl (dtk dt_X7_giveMarks 21 (33, .getfield 58, 3) rfl) hO.k hO.c (hO.off_sx hs3).n ?_
                  refine x_icmp_ge (tgt := 87) (dtk dt_X7_giveMarks 22 (36, .if_icmp .ge 51, 3) rfl) (by decide) (fun c36 => ?_) (fun c36 => ?_)
                  · skip
                    refine x_iconst (v := 0) ⟨by decide, by decide⟩ (dtk dt_X7_giveMarks 52 (87, .iconst 0, 1) rfl) ?_
                    refine x_istore (dtk dt_X7_giveMarks 53 (88, .istore 4, 2) rfl) (by decide) ?_
                    have L90 : ∀ (fu : Nat) (v4 : Int) (M4 : MM), (0 ≤ v4 ∧ v4 ≤ m) → (sx M M4) → (∀ x, x ≠ 24 → x ≠ 25 → M4 x = M x) → (∀ t, 0 ≤ t → t < m → M4 25 t = nmk m d (mkS m d v3) t) → (∀ t, 0 ≤ t → t < v4 → M4 24 t = nmk m d (mkS m d v3) t) → (m - v4).toNat = fu → MW G mi_X7_giveMarks (rmd 2 0 0) (MZ G (UQ sx none n K M (fun M' => (∀ t, 0 ≤ t → t < m → M' 24 t = mkS m d 3 t) ∧ ∀ x, x ≠ 24 → x ≠ 25 → M' x = M x)) 0 0) (0, 0) 90 [(0, (1, 18)), (1, (1, p)), (2, (1, 24)), (3, (0, v3)), (4, (0, v4))] [] n K (M4) := by
                      intro fu
                      induction fu using Nat.strongRecOn with
                      | ind fu ih90 =>
                        intro v4 M4 h7 hs4 hk4 hn4 hw4 hk90
                        refine x_iload (dtk dt_X7_giveMarks 54 (90, .iload 4, 2) rfl) rfl ?_
                        refine x_aload_n (dtk dt_X7_giveMarks 55 (92, .aload_n 1, 1) rfl) rfl ?_
                        refine fg_X7_58 rfl (dtk dt_X7_giveMarks 56 (93, .getfield 58, 3) rfl) hO.k hO.c (hO.off_sx hs4).n ?_
                        refine x_icmp_ge (tgt := 116) (dtk dt_X7_giveMarks 57 (96, .if_icmp .ge 20, 3) rfl) (by decide) (fun c96 => ?_) (fun c96 => ?_)
                        · skip
                          refine y_iinc (dtk dt_X7_giveMarks 67 (116, .iinc 3 1, 3) rfl) rfl (by decide) ⟨by omega, by omega⟩ ?_
                          refine x_goto (tgt := 22) (dtk dt_X7_giveMarks 68 (119, .goto (-97), 3) rfl) (by decide) ?_
                          refine MW.sub [1, 2, 3, 0] rfl ?_
                          exact ih22 _ (by omega) _ _ (by omega) hs4 hk4 (fun t t0 t1 => by rw [hw4 t t0 (by omega), mkS_s h3.1 ⟨t0, t1⟩]) rfl
                        · skip
                          refine x_aload_n (dtk dt_X7_giveMarks 58 (99, .aload_n 2, 1) rfl) rfl ?_
                          refine x_iload (dtk dt_X7_giveMarks 59 (100, .iload 4, 2) rfl) rfl ?_
                          refine x_aload_n (dtk dt_X7_giveMarks 60 (102, .aload_n 0, 1) rfl) rfl ?_
                          refine fg_X7_33 rfl (dtk dt_X7_giveMarks 61 (103, .getfield 33, 3) rfl) (wk_18 hO.wf) (wm_18_5 (hO.off_sx hs4).wf) ?_
                          refine x_iload (dtk dt_X7_giveMarks 62 (106, .iload 4, 2) rfl) rfl ?_
                          refine x_iald (dtk dt_X7_giveMarks 63 (108, .iaload, 1) rfl) (wk_25 hO.wf) ⟨by omega, by omega⟩ ?_
                          refine x_iast (dtk dt_X7_giveMarks 64 (109, .iastore, 1) rfl) (wk_24 hO.wf) ⟨by omega, by omega⟩ ?_
                          refine y_iinc (dtk dt_X7_giveMarks 65 (110, .iinc 4 1, 3) rfl) rfl (by decide) ⟨by omega, by omega⟩ ?_
                          refine x_goto (tgt := 90) (dtk dt_X7_giveMarks 66 (113, .goto (-23), 3) rfl) (by decide) ?_
                          refine MW.sub [1, 2, 3, 4, 0] rfl ?_
                          exact ih90 _ (by omega) _ _ (by omega) (sx.st 24 rfl hs4) (fun x hx hy => by rw [st2_ne _ hx]; exact hk4 x hx hy) (by rw [st2_ne _ (show (25 : Int) ≠ 24 by decide)]; exact hn4) (fun t t0 t1 => by rw [st2_up]; show (if t = v4 then _ else _) = _; by_cases hq : t = v4; (focus (rw [if_pos hq, hq]; exact hn4 v4 h7.1 (by omega))); (rw [if_neg hq]; exact hw4 t t0 (by omega))) rfl
                    refine MW.sub [1, 2, 3, 4, 0] rfl ?_
                    exact L90 _ _ _ (by omega) hs3 hk3 (fun t t0 t1 => hw3 t t0 (by omega)) (fun t t0 t1 => by omega) rfl
                  · skip
                    refine x_aload_n (dtk dt_X7_giveMarks 23 (39, .aload_n 0, 1) rfl) rfl ?_
                    refine fg_X7_33 rfl (dtk dt_X7_giveMarks 24 (40, .getfield 33, 3) rfl) (wk_18 hO.wf) (wm_18_5 (hO.off_sx hs3).wf) ?_
                    refine x_iload (dtk dt_X7_giveMarks 25 (43, .iload 4, 2) rfl) rfl ?_
                    refine x_aload_n (dtk dt_X7_giveMarks 26 (45, .aload_n 2, 1) rfl) rfl ?_
                    refine x_iload (dtk dt_X7_giveMarks 27 (46, .iload 4, 2) rfl) rfl ?_
                    refine x_iald (dtk dt_X7_giveMarks 28 (48, .iaload, 1) rfl) (wk_24 hO.wf) ⟨by omega, by omega⟩ ?_
                    refine x_bipush (v := 31) ⟨by decide, by decide⟩ (dtk dt_X7_giveMarks 29 (49, .bipush 31, 2) rfl) ?_
                    refine w_imul (dtk dt_X7_giveMarks 30 (51, .imul, 1) rfl) ?_
                    refine x_aload_n (dtk dt_X7_giveMarks 31 (52, .aload_n 1, 1) rfl) rfl ?_
                    refine fg_X7_62 rfl (dtk dt_X7_giveMarks 32 (53, .getfield 62, 3) rfl) hO.k hO.c (hO.off_sx hs3).dn ?_
                    refine x_iload (dtk dt_X7_giveMarks 33 (56, .iload 4, 2) rfl) rfl ?_
                    refine x_iald (dtk dt_X7_giveMarks 34 (58, .iaload, 1) rfl) hO.kd ⟨by omega, by omega⟩ ?_
                    rw [(hO.off_sx hs3).dat ⟨by omega, by omega⟩]
                    refine x_aload_n (dtk dt_X7_giveMarks 35 (59, .aload_n 2, 1) rfl) rfl ?_
                    refine kc_X7_130 rfl (dtk dt_X7_giveMarks 36 (60, .invokestatic 130, 3) rfl) (c_X7_sumOfMarks (G := G) (q := 24) (wk_24 hO.wf) (hO.ok.2.1 v4 (by omega) (by omega))) rfl rfl (fitR (by decide) (by decide)) (Nat.le_of_ble_eq_true rfl) (pqK ?_)
                    refine x_iconst (v := 3) ⟨by decide, by decide⟩ (dtk dt_X7_giveMarks 37 (63, .iconst 3, 1) rfl) ?_
                    refine w_imul (dtk dt_X7_giveMarks 38 (64, .imul, 1) rfl) ?_
                    refine w_iadd (dtk dt_X7_giveMarks 39 (65, .iadd, 1) rfl) ?_
                    refine x_aload_n (dtk dt_X7_giveMarks 40 (66, .aload_n 1, 1) rfl) rfl ?_
                    refine fg_X7_65 rfl (dtk dt_X7_giveMarks 41 (67, .getfield 65, 3) rfl) hO.k hO.c (hO.off_sx hs3).upp ?_
                    refine x_iload (dtk dt_X7_giveMarks 42 (70, .iload 4, 2) rfl) rfl ?_
                    refine x_iald (dtk dt_X7_giveMarks 43 (72, .iaload, 1) rfl) hO.ku ⟨by omega, by omega⟩ ?_
                    rw [(hO.off_sx hs3).uat ⟨by omega, by omega⟩]
                    refine x_aload_n (dtk dt_X7_giveMarks 44 (73, .aload_n 2, 1) rfl) rfl ?_
                    refine kc_X7_130 rfl (dtk dt_X7_giveMarks 45 (74, .invokestatic 130, 3) rfl) (c_X7_sumOfMarks (G := G) (q := 24) (wk_24 hO.wf) (mk_lt hsz _)) rfl rfl (fitR (by decide) (by decide)) (Nat.le_of_ble_eq_true rfl) (pqK ?_)
                    refine x_iconst (v := 5) ⟨by decide, by decide⟩ (dtk dt_X7_giveMarks 46 (77, .iconst 5, 1) rfl) ?_
                    refine w_imul (dtk dt_X7_giveMarks 47 (78, .imul, 1) rfl) ?_
                    refine w_iadd (dtk dt_X7_giveMarks 48 (79, .iadd, 1) rfl) ?_
                    refine x_iast (dtk dt_X7_giveMarks 49 (80, .iastore, 1) rfl) (wk_25 hO.wf) ⟨by omega, by omega⟩ ?_
                    refine y_iinc (dtk dt_X7_giveMarks 50 (81, .iinc 4 1, 3) rfl) rfl (by decide) ⟨by omega, by omega⟩ ?_
                    refine x_goto (tgt := 30) (dtk dt_X7_giveMarks 51 (84, .goto (-54), 3) rfl) (by decide) ?_
                    refine MW.sub [1, 2, 3, 4, 0] rfl ?_
                    exact ih30 _ (by omega) _ _ (by omega) (sx.st 25 rfl hs3) (fun x hx hy => by rw [st2_ne _ hy]; exact hk3 x hx hy) (by rw [st2_ne _ (show (24 : Int) ≠ 25 by decide)]; exact hq3) (fun t t0 t1 => by rw [st2_up]; show (if t = v4 then _ else _) = _; by_cases hq : t = v4; (focus (rw [if_pos hq, hq, hq3, ← nmk_congr hO.ok (F := M2 24) (fun u u0 u1 => hw2 u u0 u1) ⟨h5.1, by omega⟩]; rfl)); (rw [if_neg hq]; exact hw3 t t0 (by omega))) rfl
              refine MW.sub [1, 2, 3, 4, 0] rfl ?_
              exact L30 _ _ _ (by omega) hs2 hk2 rfl (fun t t0 t1 => by omega) rfl
        refine MW.sub [1, 2, 3, 0] rfl ?_
        exact L22 _ _ _ (by omega) hs1 hk1 (fun t t0 t1 => by rw [hw1 t t0 (by omega), mkS_0 ⟨t0, t1⟩]) rfl
      · skip
        refine x_aload_n (dtk dt_X7_giveMarks 6 (10, .aload_n 2, 1) rfl) rfl ?_
        refine x_iload_n (dtk dt_X7_giveMarks 7 (11, .iload_n 3, 1) rfl) rfl ?_
        refine x_iconst (v := 1) ⟨by decide, by decide⟩ (dtk dt_X7_giveMarks 8 (12, .iconst 1, 1) rfl) ?_
        refine x_iast (dtk dt_X7_giveMarks 9 (13, .iastore, 1) rfl) (wk_24 hO.wf) ⟨by omega, by omega⟩ ?_
        refine y_iinc (dtk dt_X7_giveMarks 10 (14, .iinc 3 1, 3) rfl) rfl (by decide) ⟨by omega, by omega⟩ ?_
        refine x_goto (tgt := 2) (dtk dt_X7_giveMarks 11 (17, .goto (-15), 3) rfl) (by decide) ?_
        refine MW.sub [1, 2, 3, 0] rfl ?_
        exact ih2 _ (by omega) _ _ (by omega) (sx.st 24 rfl hs1) (fun x hx hy => by rw [st2_ne _ hx]; exact hk1 x hx hy) (fun t t0 t1 => by rw [st2_up]; show (if t = v3 then _ else _) = _; split; rfl; exact hw1 t t0 (by omega)) rfl
  refine MW.sub [1, 2, 3, 0] rfl ?_
  exact L2 _ _ _ (by omega) sx.rf (fun x _ _ => rfl) (fun t t0 t1 => by omega) rfl
set_option maxRecDepth 100000 in
set_option maxHeartbeats 4000000 in
theorem c_X7_haveLikeMarks {G : GG} {n : Nat} {K : KK} {M : MM} {m : Int} (hw : WF K M) (hsz : 0 ≤ m ∧ m ≤ 10) : MC G mi_X7_haveLikeMarks 1 0 0 [(1, 18), (0, m)] n K M (PQ (some (0, B (lkM m (M 23) (M 24)))) n K (M)) := by
  refine MC.intro (lc := [(0, (1, 18)), (1, (0, m))]) (by decide) rfl (by simp [Nat.ble]) (Nat.le_of_ble_eq_true rfl) rfl (fun hMR => ?_)
  refine x_iconst (v := 0) ⟨by decide, by decide⟩ (dtk dt_X7_haveLikeMarks 0 (0, .iconst 0, 1) rfl) ?_
  refine x_istore_n (dtk dt_X7_haveLikeMarks 1 (1, .istore_n 2, 1) rfl) (by decide) ?_
  have L2 : ∀ (fu : Nat) (v2 : Int), (0 ≤ v2 ∧ v2 ≤ m) → (allB v2 (fun t => decide (sumZ m (fun s => B (decide (M 23 s = M 23 t))) = sumZ m (fun s => B (decide (M 24 s = M 23 t))))) = true) → (m - v2).toNat = fu → MW G mi_X7_haveLikeMarks (rmd 1 0 0) (MZ G (PQ (some (0, B (lkM m (M 23) (M 24)))) n K (M)) 0 0) (0, 0) 2 [(0, (1, 18)), (1, (0, m)), (2, (0, v2))] [] n K (M) := by
    intro fu
    induction fu using Nat.strongRecOn with
    | ind fu ih2 =>
      intro v2 h1 h2 hk2
      refine x_iload_n (dtk dt_X7_haveLikeMarks 2 (2, .iload_n 2, 1) rfl) rfl ?_
      refine x_iload_n (dtk dt_X7_haveLikeMarks 3 (3, .iload_n 1, 1) rfl) rfl ?_
      refine x_icmp_ge (tgt := 91) (dtk dt_X7_haveLikeMarks 4 (4, .if_icmp .ge 87, 3) rfl) (by decide) (fun c4 => ?_) (fun c4 => ?_)
      · skip
        refine x_iconst (v := 1) ⟨by decide, by decide⟩ (dtk dt_X7_haveLikeMarks 53 (91, .iconst 1, 1) rfl) ?_
        exact r_b (b := true) (dtk dt_X7_haveLikeMarks 54 (92, .ireturn, 1) rfl) rfl (by rw [show v2 = m by omega] at h2; exact h2.symm) rfl
      · skip
        refine x_iconst (v := 0) ⟨by decide, by decide⟩ (dtk dt_X7_haveLikeMarks 5 (7, .iconst 0, 1) rfl) ?_
        refine x_istore_n (dtk dt_X7_haveLikeMarks 6 (8, .istore_n 3, 1) rfl) (by decide) ?_
        refine x_iconst (v := 0) ⟨by decide, by decide⟩ (dtk dt_X7_haveLikeMarks 7 (9, .iconst 0, 1) rfl) ?_
        refine x_istore (dtk dt_X7_haveLikeMarks 8 (10, .istore 4, 2) rfl) (by decide) ?_
        refine x_iconst (v := 0) ⟨by decide, by decide⟩ (dtk dt_X7_haveLikeMarks 9 (12, .iconst 0, 1) rfl) ?_
        refine x_istore (dtk dt_X7_haveLikeMarks 10 (13, .istore 5, 2) rfl) (by decide) ?_
        have L15 : ∀ (fu : Nat) (v3 : Int) (v4 : Int) (v5 : Int), (0 ≤ v5 ∧ v5 ≤ m) → (v3 = sumZ v5 (fun s => B (decide (M 23 s = M 23 v2)))) → (v4 = sumZ v5 (fun s => B (decide (M 24 s = M 23 v2)))) → (m - v5).toNat = fu → MW G mi_X7_haveLikeMarks (rmd 1 0 0) (MZ G (PQ (some (0, B (lkM m (M 23) (M 24)))) n K (M)) 0 0) (0, 0) 15 [(0, (1, 18)), (1, (0, m)), (2, (0, v2)), (3, (0, v3)), (4, (0, v4)), (5, (0, v5))] [] n K (M) := by
          intro fu
          induction fu using Nat.strongRecOn with
          | ind fu ih15 =>
            intro v3 v4 v5 h3 h4 h5 hk15
            have hb1 := sumZ_b01 h3.1 (fun s => decide (M 23 s = M 23 v2))
            have hb2 := sumZ_b01 h3.1 (fun s => decide (M 24 s = M 23 v2))
            refine x_iload (dtk dt_X7_haveLikeMarks 11 (15, .iload 5, 2) rfl) rfl ?_
            refine x_iload_n (dtk dt_X7_haveLikeMarks 12 (17, .iload_n 1, 1) rfl) rfl ?_
            refine x_icmp_ge (tgt := 77) (dtk dt_X7_haveLikeMarks 13 (18, .if_icmp .ge 59, 3) rfl) (by decide) (fun c18 => ?_) (fun c18 => ?_)
            · skip
              refine x_iload_n (dtk dt_X7_haveLikeMarks 46 (77, .iload_n 3, 1) rfl) rfl ?_
              refine x_iload (dtk dt_X7_haveLikeMarks 47 (78, .iload 4, 2) rfl) rfl ?_
              refine x_icmp_eq (tgt := 85) (dtk dt_X7_haveLikeMarks 48 (80, .if_icmp .eq 5, 3) rfl) (by decide) (fun c80 => ?_) (fun c80 => ?_)
              · skip
                refine y_iinc (dtk dt_X7_haveLikeMarks 51 (85, .iinc 2 1, 3) rfl) rfl (by decide) ⟨by omega, by omega⟩ ?_
                refine x_goto (tgt := 2) (dtk dt_X7_haveLikeMarks 52 (88, .goto (-86), 3) rfl) (by decide) ?_
                refine MW.sub [1, 2, 0] rfl ?_
                exact ih2 _ (by omega) _ (by omega) (by rw [show v5 = m by omega] at h4 h5; rw [allB_s h1.1, h2, decide_eq_true (by rw [← h4, ← h5]; exact c80)]; rfl) rfl
              · skip
                refine x_iconst (v := 0) ⟨by decide, by decide⟩ (dtk dt_X7_haveLikeMarks 49 (83, .iconst 0, 1) rfl) ?_
                exact r_b (b := false) (dtk dt_X7_haveLikeMarks 50 (84, .ireturn, 1) rfl) rfl (by symm; rw [Bool.eq_false_iff]; intro hq; have hz := allB_iff.mp hq v2 h1.1 (by omega); rw [decide_eq_true_eq] at hz; rw [show v5 = m by omega] at h4 h5; exact c80 (by rw [h4, h5]; exact hz)) rfl
            · skip
              have J43_14 : ∀ (j1 : Bool), (j1 = decide (M 23 v5 = M 23 v2)) → MW G mi_X7_haveLikeMarks (rmd 1 0 0) (MZ G (PQ (some (0, B (lkM m (M 23) (M 24)))) n K (M)) 0 0) (0, 0) 43 [(0, (1, 18)), (1, (0, m)), (2, (0, v2)), (3, (0, v3)), (4, (0, v4)), (5, (0, v5))] [(0, B j1), (0, v3)] n K (M) := by
                intro j1 hj1
                have hj01 := B_01 j1
                refine y_iadd (dtk dt_X7_haveLikeMarks 27 (43, .iadd, 1) rfl) ⟨by omega, by omega⟩ ?_
                refine x_istore_n (dtk dt_X7_haveLikeMarks 28 (44, .istore_n 3, 1) rfl) (by decide) ?_
                have J68_16 : ∀ (j2 : Bool), (j2 = decide (M 24 v5 = M 23 v2)) → MW G mi_X7_haveLikeMarks (rmd 1 0 0) (MZ G (PQ (some (0, B (lkM m (M 23) (M 24)))) n K (M)) 0 0) (0, 0) 68 [(0, (1, 18)), (1, (0, m)), (2, (0, v2)), (3, (0, v3 + B j1)), (4, (0, v4)), (5, (0, v5))] [(0, B j2), (0, v4)] n K (M) := by
                  intro j2 hj2
                  have hj02 := B_01 j2
                  refine y_iadd (dtk dt_X7_haveLikeMarks 42 (68, .iadd, 1) rfl) ⟨by omega, by omega⟩ ?_
                  refine x_istore (dtk dt_X7_haveLikeMarks 43 (69, .istore 4, 2) rfl) (by decide) ?_
                  refine y_iinc (dtk dt_X7_haveLikeMarks 44 (71, .iinc 5 1, 3) rfl) rfl (by decide) ⟨by omega, by omega⟩ ?_
                  refine x_goto (tgt := 15) (dtk dt_X7_haveLikeMarks 45 (74, .goto (-59), 3) rfl) (by decide) ?_
                  refine MW.sub [2, 3, 4, 5, 1, 0] rfl ?_
                  exact ih15 _ (by omega) _ _ _ (by omega) (by rw [sumZ_s h3.1, h4, hj1]) (by rw [sumZ_s h3.1, h5, hj2]) rfl
                refine x_iload (dtk dt_X7_haveLikeMarks 29 (45, .iload 4, 2) rfl) rfl ?_
                refine x_aload_n (dtk dt_X7_haveLikeMarks 30 (47, .aload_n 0, 1) rfl) rfl ?_
                refine fg_X7_30 rfl (dtk dt_X7_haveLikeMarks 31 (48, .getfield 30, 3) rfl) (wk_18 hw) (wm_18_4 hw) ?_
                refine x_iload (dtk dt_X7_haveLikeMarks 32 (51, .iload 5, 2) rfl) rfl ?_
                refine x_iald (dtk dt_X7_haveLikeMarks 33 (53, .iaload, 1) rfl) (wk_24 hw) ⟨by omega, by omega⟩ ?_
                refine x_aload_n (dtk dt_X7_haveLikeMarks 34 (54, .aload_n 0, 1) rfl) rfl ?_
                refine fg_X7_27 rfl (dtk dt_X7_haveLikeMarks 35 (55, .getfield 27, 3) rfl) (wk_18 hw) (wm_18_3 hw) ?_
                refine x_iload_n (dtk dt_X7_haveLikeMarks 36 (58, .iload_n 2, 1) rfl) rfl ?_
                refine x_iald (dtk dt_X7_haveLikeMarks 37 (59, .iaload, 1) rfl) (wk_23 hw) ⟨by omega, by omega⟩ ?_
                refine x_icmp_ne (tgt := 67) (dtk dt_X7_haveLikeMarks 38 (60, .if_icmp .ne 7, 3) rfl) (by decide) (fun c60 => ?_) (fun c60 => ?_)
                · skip
                  refine x_iconst (v := 0) ⟨by decide, by decide⟩ (dtk dt_X7_haveLikeMarks 41 (67, .iconst 0, 1) rfl) ?_
                  refine MW.sub [1, 2, 3, 0, 4, 5] rfl ?_
                  exact J68_16 false (by simp_all)
                · skip
                  refine x_iconst (v := 1) ⟨by decide, by decide⟩ (dtk dt_X7_haveLikeMarks 39 (63, .iconst 1, 1) rfl) ?_
                  refine x_goto (tgt := 68) (dtk dt_X7_haveLikeMarks 40 (64, .goto 4, 3) rfl) (by decide) ?_
                  refine MW.sub [1, 2, 3, 0, 4, 5] rfl ?_
                  exact J68_16 true (by simp_all)
              refine x_iload_n (dtk dt_X7_haveLikeMarks 14 (21, .iload_n 3, 1) rfl) rfl ?_
              refine x_aload_n (dtk dt_X7_haveLikeMarks 15 (22, .aload_n 0, 1) rfl) rfl ?_
              refine fg_X7_27 rfl (dtk dt_X7_haveLikeMarks 16 (23, .getfield 27, 3) rfl) (wk_18 hw) (wm_18_3 hw) ?_
              refine x_iload (dtk dt_X7_haveLikeMarks 17 (26, .iload 5, 2) rfl) rfl ?_
              refine x_iald (dtk dt_X7_haveLikeMarks 18 (28, .iaload, 1) rfl) (wk_23 hw) ⟨by omega, by omega⟩ ?_
              refine x_aload_n (dtk dt_X7_haveLikeMarks 19 (29, .aload_n 0, 1) rfl) rfl ?_
              refine fg_X7_27 rfl (dtk dt_X7_haveLikeMarks 20 (30, .getfield 27, 3) rfl) (wk_18 hw) (wm_18_3 hw) ?_
              refine x_iload_n (dtk dt_X7_haveLikeMarks 21 (33, .iload_n 2, 1) rfl) rfl ?_
              refine x_iald (dtk dt_X7_haveLikeMarks 22 (34, .iaload, 1) rfl) (wk_23 hw) ⟨by omega, by omega⟩ ?_
              refine x_icmp_ne (tgt := 42) (dtk dt_X7_haveLikeMarks 23 (35, .if_icmp .ne 7, 3) rfl) (by decide) (fun c35 => ?_) (fun c35 => ?_)
              · skip
                refine x_iconst (v := 0) ⟨by decide, by decide⟩ (dtk dt_X7_haveLikeMarks 26 (42, .iconst 0, 1) rfl) ?_
                refine MW.sub [0, 1, 2, 3, 4, 5] rfl ?_
                exact J43_14 false (by simp_all)
              · skip
                refine x_iconst (v := 1) ⟨by decide, by decide⟩ (dtk dt_X7_haveLikeMarks 24 (38, .iconst 1, 1) rfl) ?_
                refine x_goto (tgt := 43) (dtk dt_X7_haveLikeMarks 25 (39, .goto 4, 3) rfl) (by decide) ?_
                refine MW.sub [0, 1, 2, 3, 4, 5] rfl ?_
                exact J43_14 true (by simp_all)
        refine MW.sub [3, 4, 5, 2, 1, 0] rfl ?_
        exact L15 _ _ _ _ (by omega) rfl rfl rfl
  refine MW.sub [1, 2, 0] rfl ?_
  exact L2 _ _ (by omega) rfl rfl
set_option maxRecDepth 100000 in
set_option maxHeartbeats 4000000 in
theorem c_X7_imageOf {G : GG} {n : Nat} {K : KK} {M : MM} {a m2 : Int} {p nm m : Int} {ci : Nat} {d : Int → Int} {q nm2 : Int} {cj : Nat} {e : Int → Int} (hO : OB K M p ci nm m d) (hQ : OB K M q cj nm2 m2 e) (ha : 0 ≤ a ∧ a < m) : MC G mi_X7_imageOf 17 0 0 [(1, 18), (1, p), (1, q), (0, a)] n K M (UQ sx (some (0, if m = m2 then oat (imR m d e) a else -1)) n K M (kp M)) := by
  refine MC.intro (lc := [(0, (1, 18)), (1, (1, p)), (2, (1, q)), (3, (0, a))]) (by decide) rfl (by simp [Nat.ble]) (Nat.le_of_ble_eq_true rfl) rfl (fun hMR => ?_)
  have hsz := hO.sz
  refine x_aload_n (dtk dt_X7_imageOf 0 (0, .aload_n 1, 1) rfl) rfl ?_
  refine fg_X7_58 rfl (dtk dt_X7_imageOf 1 (1, .getfield 58, 3) rfl) hO.k hO.c hO.n ?_
  refine x_aload_n (dtk dt_X7_imageOf 2 (4, .aload_n 2, 1) rfl) rfl ?_
  refine fg_X7_58 rfl (dtk dt_X7_imageOf 3 (5, .getfield 58, 3) rfl) hQ.k hQ.c hQ.n ?_
  refine x_icmp_eq (tgt := 13) (dtk dt_X7_imageOf 4 (8, .if_icmp .eq 5, 3) rfl) (by decide) (fun c8 => ?_) (fun c8 => ?_)
  · skip
    have hQ2 : OB K M q cj nm2 m e := by (rw [c8]; exact hQ)
    refine x_aload_n (dtk dt_X7_imageOf 7 (13, .aload_n 0, 1) rfl) rfl ?_
    refine x_aload_n (dtk dt_X7_imageOf 8 (14, .aload_n 1, 1) rfl) rfl ?_
    refine x_aload_n (dtk dt_X7_imageOf 9 (15, .aload_n 0, 1) rfl) rfl ?_
    refine fg_X7_27 rfl (dtk dt_X7_imageOf 10 (16, .getfield 27, 3) rfl) (wk_18 hO.wf) (wm_18_3 hO.wf) ?_
    refine kc_X7_118 rfl (dtk dt_X7_imageOf 11 (19, .invokevirtual 118, 3) rfl) (c_X7_giveMarks_23 (G := G)  hO) rfl rfl (wk_18 hO.wf) (fitR (by decide) (by decide)) (Nat.le_of_ble_eq_true rfl) (uqK (fun M19_1 hs19_1 hE19_1 => ?_))
    have hE1 := hE19_1
    refine x_aload_n (dtk dt_X7_imageOf 12 (22, .aload_n 0, 1) rfl) rfl ?_
    refine x_aload_n (dtk dt_X7_imageOf 13 (23, .aload_n 2, 1) rfl) rfl ?_
    refine x_aload_n (dtk dt_X7_imageOf 14 (24, .aload_n 0, 1) rfl) rfl ?_
    refine fg_X7_30 rfl (dtk dt_X7_imageOf 15 (25, .getfield 30, 3) rfl) (wk_18 hO.wf) (wm_18_4 (hO.off_sx hs19_1).wf) ?_
    refine kc_X7_118 rfl (dtk dt_X7_imageOf 16 (28, .invokevirtual 118, 3) rfl) (c_X7_giveMarks_24 (G := G)  (hQ2.off_sx hs19_1)) rfl rfl (wk_18 hO.wf) (fitR (by decide) (by decide)) (Nat.le_of_ble_eq_true rfl) (uqK (fun M28_2 hs28_2 hE28_2 => ?_))
    have hE2 := hE28_2
    have w23 : ∀ t, 0 ≤ t → t < m → M28_2 23 t = mkS m d 3 t := fun t t0 t1 => by (rw [hE2.2 23 (by decide) (by decide)]; exact hE1.1 t t0 t1)
    have hx0 : ∀ x, ¬ (22 ≤ x ∧ x ≤ 25) → M28_2 x = M x := fun x hx => by (rw [hE2.2 x (by omega) (by omega), hE1.2 x (by omega) (by omega)])
    refine x_aload_n (dtk dt_X7_imageOf 17 (31, .aload_n 0, 1) rfl) rfl ?_
    refine x_aload_n (dtk dt_X7_imageOf 18 (32, .aload_n 1, 1) rfl) rfl ?_
    refine fg_X7_58 rfl (dtk dt_X7_imageOf 19 (33, .getfield 58, 3) rfl) hO.k hO.c (hO.off_sx (hs19_1.tr hs28_2)).n ?_
    refine kc_X7_122 rfl (dtk dt_X7_imageOf 20 (36, .invokevirtual 122, 3) rfl) (c_X7_haveLikeMarks (G := G)  (hO.off_sx (hs19_1.tr hs28_2)).wf (by omega)) rfl rfl (wk_18 hO.wf) (fitR (by decide) (by decide)) (Nat.le_of_ble_eq_true rfl) (pqK ?_)
    rw [lkM_congr w23 hE2.1]
    refine x_if_eqB (tgt := 62) (dtk dt_X7_imageOf 21 (39, .ifCond .eq 23, 3) rfl) (by decide) (fun c39 => ?_) (fun c39 => ?_)
    · skip
      have him : imR m d e = none := by (unfold imR; rw [if_neg (by rw [c39]; decide)])
      refine x_iconst (v := -1) ⟨by decide, by decide⟩ (dtk dt_X7_imageOf 34 (62, .iconst (-1), 1) rfl) ?_
      exact ru_i (dtk dt_X7_imageOf 35 (63, .ireturn, 1) rfl) rfl (by rw [if_pos c8, him]; rfl) (hs19_1.tr hs28_2) (by first | exact ⟨hx1 9 (by omega), hx1 10 (by omega), hx1 11 (by omega)⟩ | exact ⟨hx0 9 (by omega), hx0 10 (by omega), hx0 11 (by omega)⟩)
    · skip
      refine x_aload_n (dtk dt_X7_imageOf 22 (42, .aload_n 0, 1) rfl) rfl ?_
      refine x_aload_n (dtk dt_X7_imageOf 23 (43, .aload_n 1, 1) rfl) rfl ?_
      refine x_aload_n (dtk dt_X7_imageOf 24 (44, .aload_n 2, 1) rfl) rfl ?_
      refine x_iconst (v := 0) ⟨by decide, by decide⟩ (dtk dt_X7_imageOf 25 (45, .iconst 0, 1) rfl) ?_
      refine x_iconst (v := 0) ⟨by decide, by decide⟩ (dtk dt_X7_imageOf 26 (46, .iconst 0, 1) rfl) ?_
      refine kc_X7_126 rfl (dtk dt_X7_imageOf 27 (47, .invokevirtual 126, 3) rfl) (c_X7_growMap (G := G) m.toNat (hO.off_sx (hs19_1.tr hs28_2)) (hQ2.off_sx (hs19_1.tr hs28_2)) (by omega) (by omega) rfl (fun i i0 i1 => by omega)) rfl rfl (wk_18 hO.wf) (fitR (by omega) (by decide)) (Nat.le_of_ble_eq_true rfl) (uqK (fun M47_3 hs47_3 hE47_3 => ?_))
      have hE3 := hE47_3
      rw [gm_top (by omega) w23 hE2.1] at hE3
      rw [gm_top (by omega) w23 hE2.1]
      have hx1 : ∀ x, ¬ (22 ≤ x ∧ x ≤ 25) → M47_3 x = M x := fun x hx => by (rw [hE3.1 x (by omega), hx0 x hx])
      refine x_if_eqB (tgt := 62) (dtk dt_X7_imageOf 28 (50, .ifCond .eq 12, 3) rfl) (by decide) (fun c50 => ?_) (fun c50 => ?_)
      · skip
        have him : imR m d e = none := by (unfold imR; rw [if_pos c39]; exact Option.isNone_iff_eq_none.mp (Option.isSome_eq_false_iff.mp c50))
        refine x_iconst (v := -1) ⟨by decide, by decide⟩ (dtk dt_X7_imageOf 34 (62, .iconst (-1), 1) rfl) ?_
        exact ru_i (dtk dt_X7_imageOf 35 (63, .ireturn, 1) rfl) rfl (by rw [if_pos c8, him]; rfl) ((hs19_1.tr hs28_2).tr hs47_3) (by first | exact ⟨hx1 9 (by omega), hx1 10 (by omega), hx1 11 (by omega)⟩ | exact ⟨hx0 9 (by omega), hx0 10 (by omega), hx0 11 (by omega)⟩)
      · skip
        obtain ⟨z, hz⟩ := Option.isSome_iff_exists.mp c50
        have him : imR m d e = some z := by (unfold imR; rw [if_pos c39]; exact hz)
        refine x_aload_n (dtk dt_X7_imageOf 29 (53, .aload_n 0, 1) rfl) rfl ?_
        refine fg_X7_24 rfl (dtk dt_X7_imageOf 30 (54, .getfield 24, 3) rfl) (wk_18 hO.wf) (wm_18_2 (hO.off_sx ((hs19_1.tr hs28_2).tr hs47_3)).wf) ?_
        refine x_iload_n (dtk dt_X7_imageOf 31 (57, .iload_n 3, 1) rfl) rfl ?_
        refine x_iald (dtk dt_X7_imageOf 32 (58, .iaload, 1) rfl) (wk_22 hO.wf) ⟨by omega, by omega⟩ ?_
        rw [hE3.2.2 z hz a ha.1 ha.2]
        refine x_goto (tgt := 63) (dtk dt_X7_imageOf 33 (59, .goto 4, 3) rfl) (by decide) ?_
        exact ru_i (dtk dt_X7_imageOf 35 (63, .ireturn, 1) rfl) rfl (by rw [if_pos c8, him]; rfl) ((hs19_1.tr hs28_2).tr hs47_3) (by first | exact ⟨hx1 9 (by omega), hx1 10 (by omega), hx1 11 (by omega)⟩ | exact ⟨hx0 9 (by omega), hx0 10 (by omega), hx0 11 (by omega)⟩)
  · skip
    refine x_iconst (v := -1) ⟨by decide, by decide⟩ (dtk dt_X7_imageOf 5 (11, .iconst (-1), 1) rfl) ?_
    exact ru_i (dtk dt_X7_imageOf 6 (12, .ireturn, 1) rfl) rfl (by rw [if_neg c8]) sx.rf kp.rf
set_option maxRecDepth 100000 in
set_option maxHeartbeats 4000000 in
theorem c_X7_partsOrdered {G : GG} {n : Nat} {K : KK} {M : MM} {s t : Int} {p nm m : Int} {ci : Nat} {d : Int → Int} (hO : OB K M p ci nm m d) (hs : 0 ≤ s ∧ s < p2 m) (ht : 0 ≤ t ∧ t < m) : MC G mi_X7_partsOrdered 2 0 0 [(1, p), (0, s), (0, t)] n K M (PQ (some (0, B (ptO m d s t))) n K (M)) := by
  refine MC.intro (lc := [(0, (1, p)), (1, (0, s)), (2, (0, t))]) (by decide) rfl (by simp [Nat.ble]) (Nat.le_of_ble_eq_true rfl) rfl (fun hMR => ?_)
  have hsz := hO.sz
  have hp := p2_b hsz
  have n1 : nn s := ⟨by omega, by omega⟩
  have n2 := nn_zdif n1 (hO.dnn (b := t) ⟨by omega, by omega⟩)
  refine x_iload_n (dtk dt_X7_partsOrdered 0 (0, .iload_n 1, 1) rfl) rfl ?_
  refine x_aload_n (dtk dt_X7_partsOrdered 1 (1, .aload_n 0, 1) rfl) rfl ?_
  refine fg_X7_62 rfl (dtk dt_X7_partsOrdered 2 (2, .getfield 62, 3) rfl) hO.k hO.c hO.dn ?_
  refine x_iload_n (dtk dt_X7_partsOrdered 3 (5, .iload_n 2, 1) rfl) rfl ?_
  refine x_iald (dtk dt_X7_partsOrdered 4 (6, .iaload, 1) rfl) hO.kd ⟨by omega, by omega⟩ ?_
  rw [hO.dat ⟨by omega, by omega⟩]
  refine x_iconst (v := -1) ⟨by decide, by decide⟩ (dtk dt_X7_partsOrdered 5 (7, .iconst (-1), 1) rfl) ?_
  refine x_ixor (dtk dt_X7_partsOrdered 6 (8, .ixor, 1) rfl) ?_
  refine x_iand (dtk dt_X7_partsOrdered 7 (9, .iand, 1) rfl) ?_
  refine x_istore_n (dtk dt_X7_partsOrdered 8 (10, .istore_n 3, 1) rfl) (by decide) ?_
  refine x_aload_n (dtk dt_X7_partsOrdered 9 (11, .aload_n 0, 1) rfl) rfl ?_
  refine kc_X7_95 rfl (dtk dt_X7_partsOrdered 10 (12, .invokevirtual 95, 3) rfl) (c_X4_all (G := G)  hO) rfl rfl hO.k hO.c (fitR (by decide) (by decide)) (Nat.le_of_ble_eq_true rfl) (pqK ?_)
  refine x_iload_n (dtk dt_X7_partsOrdered 11 (15, .iload_n 1, 1) rfl) rfl ?_
  refine x_iconst (v := -1) ⟨by decide, by decide⟩ (dtk dt_X7_partsOrdered 12 (16, .iconst (-1), 1) rfl) ?_
  refine x_ixor (dtk dt_X7_partsOrdered 13 (17, .ixor, 1) rfl) ?_
  refine x_iand (dtk dt_X7_partsOrdered 14 (18, .iand, 1) rfl) ?_
  refine x_aload_n (dtk dt_X7_partsOrdered 15 (19, .aload_n 0, 1) rfl) rfl ?_
  refine fg_X7_65 rfl (dtk dt_X7_partsOrdered 16 (20, .getfield 65, 3) rfl) hO.k hO.c hO.upp ?_
  refine x_iload_n (dtk dt_X7_partsOrdered 17 (23, .iload_n 2, 1) rfl) rfl ?_
  refine x_iald (dtk dt_X7_partsOrdered 18 (24, .iaload, 1) rfl) hO.ku ⟨by omega, by omega⟩ ?_
  rw [hO.uat ⟨by omega, by omega⟩]
  refine x_iconst (v := -1) ⟨by decide, by decide⟩ (dtk dt_X7_partsOrdered 19 (25, .iconst (-1), 1) rfl) ?_
  refine x_ixor (dtk dt_X7_partsOrdered 20 (26, .ixor, 1) rfl) ?_
  refine x_iand (dtk dt_X7_partsOrdered 21 (27, .iand, 1) rfl) ?_
  refine x_istore (dtk dt_X7_partsOrdered 22 (28, .istore 4, 2) rfl) (by decide) ?_
  refine x_iconst (v := 0) ⟨by decide, by decide⟩ (dtk dt_X7_partsOrdered 23 (30, .iconst 0, 1) rfl) ?_
  refine x_istore (dtk dt_X7_partsOrdered 24 (31, .istore 5, 2) rfl) (by decide) ?_
  have L33 : ∀ (fu : Nat) (v5 : Int), (0 ≤ v5 ∧ v5 ≤ m) → (exB v5 (fun a => bt (zand s (zxor (d t) (-1))) a && !dis (upS m d a) (zand (zand (p2 m - 1) (zxor s (-1))) (zxor (upS m d t) (-1)))) = false) → (m - v5).toNat = fu → MW G mi_X7_partsOrdered (rmd 2 0 0) (MZ G (PQ (some (0, B (ptO m d s t))) n K (M)) 0 0) (0, 0) 33 [(0, (1, p)), (1, (0, s)), (2, (0, t)), (3, (0, zand s (zxor (d t) (-1)))), (4, (0, zand (zand (p2 m - 1) (zxor s (-1))) (zxor (upS m d t) (-1)))), (5, (0, v5))] [] n K (M) := by
    intro fu
    induction fu using Nat.strongRecOn with
    | ind fu ih33 =>
      intro v5 h1 h2 hk33
      refine x_iload (dtk dt_X7_partsOrdered 25 (33, .iload 5, 2) rfl) rfl ?_
      refine x_aload_n (dtk dt_X7_partsOrdered 26 (35, .aload_n 0, 1) rfl) rfl ?_
      refine fg_X7_58 rfl (dtk dt_X7_partsOrdered 27 (36, .getfield 58, 3) rfl) hO.k hO.c hO.n ?_
      refine x_icmp_ge (tgt := 72) (dtk dt_X7_partsOrdered 28 (39, .if_icmp .ge 33, 3) rfl) (by decide) (fun c39 => ?_) (fun c39 => ?_)
      · skip
        refine x_iconst (v := 0) ⟨by decide, by decide⟩ (dtk dt_X7_partsOrdered 46 (72, .iconst 0, 1) rfl) ?_
        exact r_b (b := false) (dtk dt_X7_partsOrdered 47 (73, .ireturn, 1) rfl) rfl (by rw [show v5 = m by omega] at h2; exact h2.symm) rfl
      · skip
        refine x_iload_n (dtk dt_X7_partsOrdered 29 (42, .iload_n 3, 1) rfl) rfl ?_
        refine x_iload (dtk dt_X7_partsOrdered 30 (43, .iload 5, 2) rfl) rfl ?_
        refine x_ishr (dtk dt_X7_partsOrdered 31 (45, .ishr, 1) rfl) ?_
        refine x_iconst (v := 1) ⟨by decide, by decide⟩ (dtk dt_X7_partsOrdered 32 (46, .iconst 1, 1) rfl) ?_
        refine x_iand (dtk dt_X7_partsOrdered 33 (47, .iand, 1) rfl) ?_
        rw [zbit n2 ⟨by omega, by omega⟩]
        change MW G _ _ _ _ _ _ ((0, B (bt (zand s (zxor (d t) (-1))) (v5))) :: _) _ _ _
        refine x_if_eqB (tgt := 66) (dtk dt_X7_partsOrdered 34 (48, .ifCond .eq 18, 3) rfl) (by decide) (fun c48 => ?_) (fun c48 => ?_)
        · skip
          refine y_iinc (dtk dt_X7_partsOrdered 44 (66, .iinc 5 1, 3) rfl) rfl (by decide) ⟨by omega, by omega⟩ ?_
          refine x_goto (tgt := 33) (dtk dt_X7_partsOrdered 45 (69, .goto (-36), 3) rfl) (by decide) ?_
          refine MW.sub [1, 2, 3, 4, 5, 0] rfl ?_
          exact ih33 _ (by omega) _ (by omega) (by rw [exB_s h1.1, h2]; unfold dis; first | (rw [c48]; rfl) | (rw [c61]; simp)) rfl
        · skip
          refine x_aload_n (dtk dt_X7_partsOrdered 35 (51, .aload_n 0, 1) rfl) rfl ?_
          refine fg_X7_65 rfl (dtk dt_X7_partsOrdered 36 (52, .getfield 65, 3) rfl) hO.k hO.c hO.upp ?_
          refine x_iload (dtk dt_X7_partsOrdered 37 (55, .iload 5, 2) rfl) rfl ?_
          refine x_iald (dtk dt_X7_partsOrdered 38 (57, .iaload, 1) rfl) hO.ku ⟨by omega, by omega⟩ ?_
          rw [hO.uat ⟨by omega, by omega⟩]
          refine x_iload (dtk dt_X7_partsOrdered 39 (58, .iload 4, 2) rfl) rfl ?_
          refine x_iand (dtk dt_X7_partsOrdered 40 (60, .iand, 1) rfl) ?_
          refine x_if_eq (tgt := 66) (dtk dt_X7_partsOrdered 41 (61, .ifCond .eq 5, 3) rfl) (by decide) (fun c61 => ?_) (fun c61 => ?_)
          · skip
            refine y_iinc (dtk dt_X7_partsOrdered 44 (66, .iinc 5 1, 3) rfl) rfl (by decide) ⟨by omega, by omega⟩ ?_
            refine x_goto (tgt := 33) (dtk dt_X7_partsOrdered 45 (69, .goto (-36), 3) rfl) (by decide) ?_
            refine MW.sub [1, 2, 3, 4, 5, 0] rfl ?_
            exact ih33 _ (by omega) _ (by omega) (by rw [exB_s h1.1, h2]; unfold dis; first | (rw [c48]; rfl) | (rw [c61]; simp)) rfl
          · skip
            refine x_iconst (v := 1) ⟨by decide, by decide⟩ (dtk dt_X7_partsOrdered 42 (64, .iconst 1, 1) rfl) ?_
            exact r_b (b := true) (dtk dt_X7_partsOrdered 43 (65, .ireturn, 1) rfl) rfl (by symm; refine exB_iff.mpr ⟨v5, h1.1, by omega, ?_⟩; unfold dis; rw [c48, decide_eq_false c61]; rfl) rfl
  refine MW.sub [3, 4, 5, 2, 1, 0] rfl ?_
  exact L33 _ _ (by omega) rfl rfl
set_option maxRecDepth 100000 in
set_option maxHeartbeats 4000000 in
theorem c_X7_growFirstRow {G : GG} {n : Nat} {K : KK} {p nm m : Int} {ci : Nat} {d : Int → Int} : ∀ (kk : Nat) {M : MM} {s t : Int}, (OB K M p ci nm m d) → (t + kk = m) → (0 ≤ t) → (s = hadS (M 20) t) → (∀ i, 0 ≤ i → i < t → 0 ≤ M 20 i ∧ M 20 i < m) → (M 19 1 = t) → MC G mi_X7_growFirstRow (5 + kk) 0 0 [(1, 18), (1, p), (0, s), (0, t)] n K M (UQ sx (some (0, B ((srN m m (grP m d) kk t (M 20)).isSome))) n K M (fun M' => (∀ x, x ≠ 20 → x ≠ 19 → M' x = M x) ∧ (∀ i, 0 ≤ i → i < t → M' 20 i = M 20 i) ∧ ((srN m m (grP m d) kk t (M 20)).isSome = false → M' 19 1 = t) ∧ ∀ z, srN m m (grP m d) kk t (M 20) = some z → M' 19 1 = m ∧ ∀ i, 0 ≤ i → i < m → M' 20 i = z i)) := by
  intro kk
  induction kk using Nat.strongRecOn with
  | ind kk ihR =>
  intro M s t hO hkk ht hs hx h19
  refine MC.intro (lc := [(0, (1, 18)), (1, (1, p)), (2, (0, s)), (3, (0, t))]) (by decide) rfl (by simp [Nat.ble]) (Nat.le_of_ble_eq_true rfl) rfl (fun hMR => ?_)
  have hsz := hO.sz
  have hp := p2_b hsz
  have hhp := hadS_p2 (x := M 20) (m := t) ⟨by omega, by omega⟩
  have hsb : 0 ≤ s ∧ s < p2 m := by (have hz := hadS_p3 (x := M 20) (m := m) hsz t.toNat (by omega) (fun i i0 i1 => hx i i0 (by omega)); rw [show ((t.toNat : Nat) : Int) = t by omega, ← hs] at hz; exact hz)
  refine x_iload_n (dtk dt_X7_growFirstRow 0 (0, .iload_n 3, 1) rfl) rfl ?_
  refine x_aload_n (dtk dt_X7_growFirstRow 1 (1, .aload_n 1, 1) rfl) rfl ?_
  refine fg_X7_58 rfl (dtk dt_X7_growFirstRow 2 (2, .getfield 58, 3) rfl) hO.k hO.c hO.n ?_
  refine x_icmp_lt (tgt := 10) (dtk dt_X7_growFirstRow 3 (5, .if_icmp .lt 5, 3) rfl) (by decide) (fun c5 => ?_) (fun c5 => ?_)
  · skip
    refine x_iconst (v := 0) ⟨by decide, by decide⟩ (dtk dt_X7_growFirstRow 6 (10, .iconst 0, 1) rfl) ?_
    refine x_istore (dtk dt_X7_growFirstRow 7 (11, .istore 4, 2) rfl) (by decide) ?_
    have L13 : ∀ (fu : Nat) (v4 : Int) (M1 : MM), (0 ≤ v4 ∧ v4 ≤ m) → (sx M M1) → (∀ x, x ≠ 20 → x ≠ 19 → M1 x = M x) → (∀ i, 0 ≤ i → i < t → M1 20 i = M 20 i) → (M1 19 1 = t) → (tryC (fun c => if grP m d (M 20) t c then srN m m (grP m d) (kk - 1) (t + 1) (up (M 20) t c) else none) (m - v4).toNat v4 = srN m m (grP m d) kk t (M 20)) → (m - v4).toNat = fu → MW G mi_X7_growFirstRow (rmd (5 + kk) 0 0) (MZ G (UQ sx (some (0, B ((srN m m (grP m d) kk t (M 20)).isSome))) n K M (fun M' => (∀ x, x ≠ 20 → x ≠ 19 → M' x = M x) ∧ (∀ i, 0 ≤ i → i < t → M' 20 i = M 20 i) ∧ ((srN m m (grP m d) kk t (M 20)).isSome = false → M' 19 1 = t) ∧ ∀ z, srN m m (grP m d) kk t (M 20) = some z → M' 19 1 = m ∧ ∀ i, 0 ≤ i → i < m → M' 20 i = z i)) 0 0) (0, 0) 13 [(0, (1, 18)), (1, (1, p)), (2, (0, s)), (3, (0, t)), (4, (0, v4))] [] n K (M1) := by
      intro fu
      induction fu using Nat.strongRecOn with
      | ind fu ih13 =>
        intro v4 M1 h1 hs1 ho1 hi1 h91 h2 hk13
        refine x_iload (dtk dt_X7_growFirstRow 8 (13, .iload 4, 2) rfl) rfl ?_
        refine x_aload_n (dtk dt_X7_growFirstRow 9 (15, .aload_n 1, 1) rfl) rfl ?_
        refine fg_X7_58 rfl (dtk dt_X7_growFirstRow 10 (16, .getfield 58, 3) rfl) hO.k hO.c (hO.off_sx hs1).n ?_
        refine x_icmp_ge (tgt := 83) (dtk dt_X7_growFirstRow 11 (19, .if_icmp .ge 64, 3) rfl) (by decide) (fun c19 => ?_) (fun c19 => ?_)
        · skip
          refine x_iconst (v := 0) ⟨by decide, by decide⟩ (dtk dt_X7_growFirstRow 45 (83, .iconst 0, 1) rfl) ?_
          exact ru_b (b := false) (dtk dt_X7_growFirstRow 46 (84, .ireturn, 1) rfl) rfl (by rw [← h2, tryC_e (by omega)]; rfl) hs1 ⟨ho1, hi1, fun _ => h91, fun z hz => by (rw [← h2, tryC_e (by omega)] at hz; cases hz)⟩
        · skip
          refine x_aload_n (dtk dt_X7_growFirstRow 12 (22, .aload_n 1, 1) rfl) rfl ?_
          refine x_iload_n (dtk dt_X7_growFirstRow 13 (23, .iload_n 2, 1) rfl) rfl ?_
          refine x_iload (dtk dt_X7_growFirstRow 14 (24, .iload 4, 2) rfl) rfl ?_
          refine kc_X7_81 rfl (dtk dt_X7_growFirstRow 15 (26, .invokestatic 81, 3) rfl) (c_X6_canFollow (G := G)  (hO.off_sx hs1) ⟨by omega, by omega⟩ (by omega)) rfl rfl (fitR (by omega) (by decide)) (Nat.le_of_ble_eq_true rfl) (pqK ?_)
          refine x_if_eqB (tgt := 77) (dtk dt_X7_growFirstRow 16 (29, .ifCond .eq 48, 3) rfl) (by decide) (fun c29 => ?_) (fun c29 => ?_)
          · skip
            refine y_iinc (dtk dt_X7_growFirstRow 43 (77, .iinc 4 1, 3) rfl) rfl (by decide) ⟨by omega, by omega⟩ ?_
            refine x_goto (tgt := 13) (dtk dt_X7_growFirstRow 44 (80, .goto (-67), 3) rfl) (by decide) ?_
            refine MW.sub [1, 2, 3, 4, 0] rfl ?_
            exact ih13 _ (by omega) _ _ (by omega) hs1 (by first | exact ho1 | exact (fun x hx hy => by rw [st2_ne _ hy, hE.1 x hx hy, st2_ne _ hy, st2_ne _ hx]; exact ho1 x hx hy)) (by first | exact hi1 | exact (fun i i0 i1 => by rw [st2_ne _ (show (20 : Int) ≠ 19 by decide), hE.2.1 i i0 (by omega), st2_ne _ (show (20 : Int) ≠ 19 by decide), st2_up]; exact (if_neg (by omega)).trans (hi1 i i0 i1))) (by first | exact h91 | (rw [st2_self]; omega)) (by rw [tryC_s (by omega)] at h2; rw [← h2]; first | (rw [if_pos hgp, hnone, Option.none_or]; done) | (rw [if_neg (show ¬ grP m d (M 20) t v4 = true from by unfold grP; rw [← hs]; first | (rw [c39]; simp; done) | (rw [c29]; simp; done)), Option.none_or])) rfl
          · skip
            refine x_aload_n (dtk dt_X7_growFirstRow 17 (32, .aload_n 1, 1) rfl) rfl ?_
            refine x_iload_n (dtk dt_X7_growFirstRow 18 (33, .iload_n 2, 1) rfl) rfl ?_
            refine x_iload (dtk dt_X7_growFirstRow 19 (34, .iload 4, 2) rfl) rfl ?_
            refine kc_X7_86 rfl (dtk dt_X7_growFirstRow 20 (36, .invokestatic 86, 3) rfl) (c_X7_partsOrdered (G := G)  (hO.off_sx hs1) hsb (by omega)) rfl rfl (fitR (by omega) (by decide)) (Nat.le_of_ble_eq_true rfl) (pqK ?_)
            refine x_if_neB (tgt := 77) (dtk dt_X7_growFirstRow 21 (39, .ifCond .ne 38, 3) rfl) (by decide) (fun c39 => ?_) (fun c39 => ?_)
            · skip
              refine y_iinc (dtk dt_X7_growFirstRow 43 (77, .iinc 4 1, 3) rfl) rfl (by decide) ⟨by omega, by omega⟩ ?_
              refine x_goto (tgt := 13) (dtk dt_X7_growFirstRow 44 (80, .goto (-67), 3) rfl) (by decide) ?_
              refine MW.sub [1, 2, 3, 4, 0] rfl ?_
              exact ih13 _ (by omega) _ _ (by omega) hs1 (by first | exact ho1 | exact (fun x hx hy => by rw [st2_ne _ hy, hE.1 x hx hy, st2_ne _ hy, st2_ne _ hx]; exact ho1 x hx hy)) (by first | exact hi1 | exact (fun i i0 i1 => by rw [st2_ne _ (show (20 : Int) ≠ 19 by decide), hE.2.1 i i0 (by omega), st2_ne _ (show (20 : Int) ≠ 19 by decide), st2_up]; exact (if_neg (by omega)).trans (hi1 i i0 i1))) (by first | exact h91 | (rw [st2_self]; omega)) (by rw [tryC_s (by omega)] at h2; rw [← h2]; first | (rw [if_pos hgp, hnone, Option.none_or]; done) | (rw [if_neg (show ¬ grP m d (M 20) t v4 = true from by unfold grP; rw [← hs]; first | (rw [c39]; simp; done) | (rw [c29]; simp; done)), Option.none_or])) rfl
            · skip
              have hgp : grP m d (M 20) t v4 = true := by (unfold grP; rw [← hs, c29, c39]; rfl)
              refine x_aload_n (dtk dt_X7_growFirstRow 22 (42, .aload_n 0, 1) rfl) rfl ?_
              refine fg_X7_14 rfl (dtk dt_X7_growFirstRow 23 (43, .getfield 14, 3) rfl) (wk_18 hO.wf) (wm_18_0 (hO.off_sx hs1).wf) ?_
              refine x_iload (dtk dt_X7_growFirstRow 24 (46, .iload 4, 2) rfl) rfl ?_
              refine kc_X7_89 rfl (dtk dt_X7_growFirstRow 25 (48, .invokevirtual 89, 3) rfl) (c_X3_add (G := G)  (ln_19 (hO.off_sx hs1).wf (by omega))) rfl rfl (wk_19 hO.wf) (fitR (by omega) (by decide)) (Nat.le_of_ble_eq_true rfl) (pqK ?_)
              rw [add_19 (by omega)]
              refine x_aload_n (dtk dt_X7_growFirstRow 26 (51, .aload_n 0, 1) rfl) rfl ?_
              refine x_aload_n (dtk dt_X7_growFirstRow 27 (52, .aload_n 1, 1) rfl) rfl ?_
              refine x_iload_n (dtk dt_X7_growFirstRow 28 (53, .iload_n 2, 1) rfl) rfl ?_
              refine x_iconst (v := 1) ⟨by decide, by decide⟩ (dtk dt_X7_growFirstRow 29 (54, .iconst 1, 1) rfl) ?_
              refine x_iload (dtk dt_X7_growFirstRow 30 (55, .iload 4, 2) rfl) rfl ?_
              refine x_ishl (dtk dt_X7_growFirstRow 31 (57, .ishl, 1) rfl) ?_
              refine x_ior (dtk dt_X7_growFirstRow 32 (58, .ior, 1) rfl) ?_
              change MW G _ _ _ _ _ _ ((0, plus s v4) :: _) _ _ _
              refine x_iload_n (dtk dt_X7_growFirstRow 33 (59, .iload_n 3, 1) rfl) rfl ?_
              refine x_iconst (v := 1) ⟨by decide, by decide⟩ (dtk dt_X7_growFirstRow 34 (60, .iconst 1, 1) rfl) ?_
              refine y_iadd (dtk dt_X7_growFirstRow 35 (61, .iadd, 1) rfl) ⟨by omega, by omega⟩ ?_
              refine kc_X7_77 rfl (dtk dt_X7_growFirstRow 36 (62, .invokevirtual 77, 3) rfl) (ihR (kk - 1) (by omega) (M := (st2 (st2 M1 20 (M1 19 1) v4) 19 1 (M1 19 1 + 1))) (s := plus s v4) (t := t + 1) (hO.off_sx (sx.fd 19 1 rfl (sx.st 20 rfl hs1))) (by omega) (by omega) (by rw [st2_ne _ (show (20 : Int) ≠ 19 by decide), st2_up, h91, hadS_up ht, hs, hadS_congr (x := M1 20) (y := M 20) (t := t) hi1]) (fun i i0 i1 => by rw [st2_ne _ (show (20 : Int) ≠ 19 by decide), st2_up, h91]; show 0 ≤ (if i = t then v4 else M1 20 i) ∧ (if i = t then v4 else M1 20 i) < m; split; omega; (rw [hi1 i i0 (by omega)]; exact hx i i0 (by omega))) (by rw [st2_self]; omega)) rfl rfl (wk_18 hO.wf) (fitR (by omega) (by decide)) (Nat.le_of_ble_eq_true rfl) (uqK (fun M62_1 hs62_1 hE62_1 => ?_))
              have hE := hE62_1
              have hsr : srN m m (grP m d) (kk - 1) (t + 1) ((st2 (st2 M1 20 (M1 19 1) v4) 19 1 (M1 19 1 + 1)) 20) = srN m m (grP m d) (kk - 1) (t + 1) (up (M 20) t v4) := by (rw [st2_ne _ (show (20 : Int) ≠ 19 by decide), st2_up, h91]; exact srN_congr (grP_loc m d) _ _ _ _ (by omega) (fun i i0 i1 => by unfold up; split; rfl; exact hi1 i i0 (by omega)))
              rw [hsr] at hE
              rw [hsr]
              refine x_if_eqB (tgt := 70) (dtk dt_X7_growFirstRow 37 (65, .ifCond .eq 5, 3) rfl) (by decide) (fun c65 => ?_) (fun c65 => ?_)
              · skip
                have hnone : srN m m (grP m d) (kk - 1) (t + 1) (up (M 20) t v4) = none := Option.isNone_iff_eq_none.mp (Option.isSome_eq_false_iff.mp c65)
                have hsz19 := hE.2.2.1 c65
                refine x_aload_n (dtk dt_X7_growFirstRow 40 (70, .aload_n 0, 1) rfl) rfl ?_
                refine fg_X7_14 rfl (dtk dt_X7_growFirstRow 41 (71, .getfield 14, 3) rfl) (wk_18 hO.wf) (wm_18_0 (hO.off_sx ((sx.fd 19 1 rfl (sx.st 20 rfl hs1)).tr hs62_1)).wf) ?_
                refine kc_X7_92 rfl (dtk dt_X7_growFirstRow 42 (74, .invokevirtual 92, 3) rfl) (c_X3_takeLast (G := G)  (ln_19 (hO.off_sx ((sx.fd 19 1 rfl (sx.st 20 rfl hs1)).tr hs62_1)).wf (by omega))) rfl rfl (wk_19 hO.wf) (fitR (by omega) (by decide)) (Nat.le_of_ble_eq_true rfl) (pqK ?_)
                rw [if_pos (show 0 < M62_1 19 1 by omega)]
                refine y_iinc (dtk dt_X7_growFirstRow 43 (77, .iinc 4 1, 3) rfl) rfl (by decide) ⟨by omega, by omega⟩ ?_
                refine x_goto (tgt := 13) (dtk dt_X7_growFirstRow 44 (80, .goto (-67), 3) rfl) (by decide) ?_
                refine MW.sub [1, 2, 3, 4, 0] rfl ?_
                exact ih13 _ (by omega) _ _ (by omega) (sx.fd 19 1 rfl ((sx.fd 19 1 rfl (sx.st 20 rfl hs1)).tr hs62_1)) (by first | exact ho1 | exact (fun x hx hy => by rw [st2_ne _ hy, hE.1 x hx hy, st2_ne _ hy, st2_ne _ hx]; exact ho1 x hx hy)) (by first | exact hi1 | exact (fun i i0 i1 => by rw [st2_ne _ (show (20 : Int) ≠ 19 by decide), hE.2.1 i i0 (by omega), st2_ne _ (show (20 : Int) ≠ 19 by decide), st2_up]; exact (if_neg (by omega)).trans (hi1 i i0 i1))) (by first | exact h91 | (rw [st2_self]; omega)) (by rw [tryC_s (by omega)] at h2; rw [← h2]; first | (rw [if_pos hgp, hnone, Option.none_or]; done) | (rw [if_neg (show ¬ grP m d (M 20) t v4 = true from by unfold grP; rw [← hs]; first | (rw [c39]; simp; done) | (rw [c29]; simp; done)), Option.none_or])) rfl
              · skip
                have hsome : srN m m (grP m d) kk t (M 20) = srN m m (grP m d) (kk - 1) (t + 1) (up (M 20) t v4) := by (rw [← h2, tryC_s (by omega), if_pos hgp]; obtain ⟨z, hz⟩ := Option.isSome_iff_exists.mp c65; rw [hz]; rfl)
                refine x_iconst (v := 1) ⟨by decide, by decide⟩ (dtk dt_X7_growFirstRow 38 (68, .iconst 1, 1) rfl) ?_
                exact ru_b (b := true) (dtk dt_X7_growFirstRow 39 (69, .ireturn, 1) rfl) rfl (by rw [hsome, c65]) ((sx.fd 19 1 rfl (sx.st 20 rfl hs1)).tr hs62_1) ⟨fun x hx hy => by (rw [hE.1 x hx hy, st2_ne _ hy, st2_ne _ hx]; exact ho1 x hx hy), fun i i0 i1 => by (rw [hE.2.1 i i0 (by omega), st2_ne _ (show (20 : Int) ≠ 19 by decide), st2_up]; exact (if_neg (by omega)).trans (hi1 i i0 i1)), fun hq => by (rw [hsome, c65] at hq; cases hq), fun z hz => hE.2.2.2 z (by rw [← hsome]; exact hz)⟩
    refine MW.sub [1, 2, 3, 4, 0] rfl ?_
    exact L13 _ _ _ (by omega) sx.rf (fun x _ _ => rfl) (fun i _ _ => rfl) h19 (by rw [show kk = (kk - 1) + 1 by omega, Int.sub_zero]; rfl) rfl
  · skip
    refine x_iconst (v := 1) ⟨by decide, by decide⟩ (dtk dt_X7_growFirstRow 4 (8, .iconst 1, 1) rfl) ?_
    exact ru_b (b := true) (dtk dt_X7_growFirstRow 5 (9, .ireturn, 1) rfl) rfl (by rw [show kk = 0 by omega]; rfl) sx.rf ⟨fun x _ _ => rfl, fun i _ _ => rfl, fun hq => by (rw [show kk = 0 by omega] at hq; cases hq), fun z hz => ⟨by omega, fun i i0 i1 => by (rw [show kk = 0 by omega] at hz; rw [← Option.some.inj hz]; unfold nrm; rw [if_pos ⟨i0, i1⟩])⟩⟩
set_option maxRecDepth 100000 in
set_option maxHeartbeats 4000000 in
theorem c_X7_findTwo {G : GG} {n : Nat} {K : KK} {M : MM} {p nm m : Int} {ci : Nat} {d : Int → Int} (hO : OB K M p ci nm m d) : MC G mi_X7_findTwo 17 0 0 [(1, 18), (1, p)] n K M (UQ sx (some (0, B ((grR m d).isSome))) n K M (fun M' => kp M M' ∧ ∀ z, grR m d = some z → M' 19 1 = m ∧ ∀ i, 0 ≤ i → i < m → M' 20 i = z i)) := by
  refine MC.intro (lc := [(0, (1, 18)), (1, (1, p))]) (by decide) rfl (by simp [Nat.ble]) (Nat.le_of_ble_eq_true rfl) rfl (fun hMR => ?_)
  have hsz := hO.sz
  refine x_aload_n (dtk dt_X7_findTwo 0 (0, .aload_n 0, 1) rfl) rfl ?_
  refine fg_X7_14 rfl (dtk dt_X7_findTwo 1 (1, .getfield 14, 3) rfl) (wk_18 hO.wf) (wm_18_0 hO.wf) ?_
  refine kc_X7_74 rfl (dtk dt_X7_findTwo 2 (4, .invokevirtual 74, 3) rfl) (c_X3_empty0 (G := G)  (wk_19 hO.wf)) rfl rfl (wk_19 hO.wf) (fitR (by decide) (by decide)) (Nat.le_of_ble_eq_true rfl) (pqK ?_)
  refine x_aload_n (dtk dt_X7_findTwo 3 (7, .aload_n 0, 1) rfl) rfl ?_
  refine x_aload_n (dtk dt_X7_findTwo 4 (8, .aload_n 1, 1) rfl) rfl ?_
  refine x_iconst (v := 0) ⟨by decide, by decide⟩ (dtk dt_X7_findTwo 5 (9, .iconst 0, 1) rfl) ?_
  refine x_iconst (v := 0) ⟨by decide, by decide⟩ (dtk dt_X7_findTwo 6 (10, .iconst 0, 1) rfl) ?_
  refine kc_X7_77 rfl (dtk dt_X7_findTwo 7 (11, .invokevirtual 77, 3) rfl) (c_X7_growFirstRow (G := G) m.toNat (hO.off_sx (sx.fd 19 1 rfl sx.rf)) (by omega) (by omega) rfl (fun i i0 i1 => by omega) (by rw [st2_self])) rfl rfl (wk_18 hO.wf) (fitR (by omega) (by decide)) (Nat.le_of_ble_eq_true rfl) (uqK (fun M11_1 hs11_1 hE11_1 => ?_))
  have hE := hE11_1
  rw [gr_top (by omega)] at hE
  rw [gr_top (by omega)]
  exact ru_b (dtk dt_X7_findTwo 8 (14, .ireturn, 1) rfl) rfl rfl ((sx.fd 19 1 rfl sx.rf).tr hs11_1) ⟨⟨by rw [hE.1 9 (by decide) (by decide), st2_ne _ (show (9 : Int) ≠ 19 by decide)], by rw [hE.1 10 (by decide) (by decide), st2_ne _ (show (10 : Int) ≠ 19 by decide)], by rw [hE.1 11 (by decide) (by decide), st2_ne _ (show (11 : Int) ≠ 19 by decide)]⟩, hE.2.2.2⟩
