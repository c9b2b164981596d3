/-! ===== the class: jumps, bounds, inverses ===== -/
set_option maxRecDepth 100000 in
set_option maxHeartbeats 4000000 in
theorem c_X6_spreadJumps {G : GG} {n : Nat} {K : KK} {M : MM} {s : Int} {p nm m : Int} {ci : Nat} {d : Int → Int} (hO : OB K M p ci nm m d) (hs : 0 ≤ s ∧ s < p2 m) (hB : sjB m (M 12, M 13)) : MC G mi_X6_spreadJumps 2 0 0 [(1, 9), (1, p), (0, s)] n K M (UQ sx none n K M (fun M' => (M' 12 = (foldG m (sjC d s) (M 12, M 13)).1 ∧ M' 13 = (foldG m (sjC d s) (M 12, M 13)).2) ∧ kp M M')) := by
  refine MC.intro (lc := [(0, (1, 9)), (1, (1, p)), (2, (0, s))]) (by decide) rfl (by simp [Nat.ble]) (Nat.le_of_ble_eq_true rfl) rfl (fun hMR => ?_)
  have hsz := hO.sz
  have hp := p2_b hsz
  refine x_iconst (v := 0) ⟨by decide, by decide⟩ (dtk dt_X6_spreadJumps 0 (0, .iconst 0, 1) rfl) ?_
  refine x_istore_n (dtk dt_X6_spreadJumps 1 (1, .istore_n 3, 1) rfl) (by decide) ?_
  have L2 : ∀ (fu : Nat) (v3 : Int) (M1 : MM), (0 ≤ v3 ∧ v3 ≤ m) → (sx M M1) → (kp M M1) → (M1 12 = (foldG v3 (sjC d s) (M 12, M 13)).1 ∧ M1 13 = (foldG v3 (sjC d s) (M 12, M 13)).2) → (m - v3).toNat = fu → MW G mi_X6_spreadJumps (rmd 2 0 0) (MZ G (UQ sx none n K M (fun M' => (M' 12 = (foldG m (sjC d s) (M 12, M 13)).1 ∧ M' 13 = (foldG m (sjC d s) (M 12, M 13)).2) ∧ kp M M')) 0 0) (0, 0) 2 [(0, (1, 9)), (1, (1, p)), (2, (0, s)), (3, (0, v3))] [] n K (M1) := by
    intro fu
    induction fu using Nat.strongRecOn with
    | ind fu ih2 =>
      intro v3 M1 h1 hs1 hkp hw hk2
      have hB1 : sjB m (M1 12, M1 13) := by (rw [hw.1, hw.2]; have hz := sjG_B (d := d) hsz hs hB v3.toNat (by omega); rw [show ((v3.toNat : Nat) : Int) = v3 by omega] at hz; exact hz)
      have hB2 : (0 ≤ M1 12 s ∧ M1 12 s ≤ 10) ∧ (0 ≤ M1 13 s ∧ M1 13 s < 1024) := hB1 s hs.1 hs.2
      refine x_iload_n (dtk dt_X6_spreadJumps 2 (2, .iload_n 3, 1) rfl) rfl ?_
      refine x_aload_n (dtk dt_X6_spreadJumps 3 (3, .aload_n 1, 1) rfl) rfl ?_
      refine fg_X6_51 rfl (dtk dt_X6_spreadJumps 4 (4, .getfield 51, 3) rfl) hO.k hO.c (hO.off_sx hs1).n ?_
      refine x_icmp_ge (tgt := 132) (dtk dt_X6_spreadJumps 5 (7, .if_icmp .ge 125, 3) rfl) (by decide) (fun c7 => ?_) (fun c7 => ?_)
      · skip
        exact ru_v (dtk dt_X6_spreadJumps 78 (132, .return_, 1) rfl) rfl hs1 (by rw [show v3 = m by omega] at hw; exact ⟨hw, hkp⟩)
      · skip
        have hpl := plus_in hsz hs ⟨h1.1, (by omega : v3 < m)⟩
        have hB3 : (0 ≤ M1 12 (plus s v3) ∧ M1 12 (plus s v3) ≤ 10) ∧ (0 ≤ M1 13 (plus s v3) ∧ M1 13 (plus s v3) < 1024) := hB1 _ hpl.1 hpl.2
        refine x_aload_n (dtk dt_X6_spreadJumps 6 (10, .aload_n 1, 1) rfl) rfl ?_
        refine x_iload_n (dtk dt_X6_spreadJumps 7 (11, .iload_n 2, 1) rfl) rfl ?_
        refine x_iload_n (dtk dt_X6_spreadJumps 8 (12, .iload_n 3, 1) rfl) rfl ?_
        refine kc_X6_54 rfl (dtk dt_X6_spreadJumps 9 (13, .invokestatic 54, 3) rfl) (c_X6_canFollow (G := G)  (hO.off_sx hs1) ⟨by omega, by omega⟩ (by omega)) rfl rfl (fitR (by decide) (by decide)) (Nat.le_of_ble_eq_true rfl) (pqK ?_)
        refine x_if_eqB (tgt := 126) (dtk dt_X6_spreadJumps 10 (16, .ifCond .eq 110, 3) rfl) (by decide) (fun c16 => ?_) (fun c16 => ?_)
        · skip
          refine y_iinc (dtk dt_X6_spreadJumps 76 (126, .iinc 3 1, 3) rfl) rfl (by decide) ⟨by omega, by omega⟩ ?_
          refine x_goto (tgt := 2) (dtk dt_X6_spreadJumps 77 (129, .goto (-127), 3) rfl) (by decide) ?_
          refine MW.sub [1, 2, 3, 0] rfl ?_
          exact ih2 _ (by omega) _ _ (by omega) hs1 (by first | exact hkp | exact hkp5 | exact kp.st 13 rfl hkp5) (by rw [foldG_s h1.1]; show _ = (sjC d s (foldG v3 (sjC d s) (M 12, M 13)) v3).1 ∧ _ = (sjC d s (foldG v3 (sjC d s) (M 12, M 13)) v3).2; rw [show sjC d s (foldG v3 (sjC d s) (M 12, M 13)) v3 = sjC d s (M1 12, M1 13) v3 by rw [hw.1, hw.2]]; first | (rw [sjC_no c16]; exact ⟨rfl, rfl⟩) | (rcases hL with ⟨z1, z2, z3⟩ | ⟨z1, z2, z3⟩; (focus (rw [sjC_lt c16 hF z1]; first | (exfalso; rw [z2] at c110; exact c110 (if_pos rfl).symm) | exact ⟨by rw [st2_ne _ (show (12 : Int) ≠ 13 by decide), z2], by rw [st2_up, z3, show up (M1 13) (plus s v3) 0 (plus s v3) = 0 from if_pos rfl, up_up]⟩)); (focus (first | (rw [sjC_eq c16 hF (by rw [z2] at c110; omega)]; exact ⟨by rw [st2_ne _ (show (12 : Int) ≠ 13 by decide), z2], by rw [st2_up, z3]⟩) | (rw [sjC_gt c16 hF (by rw [z2] at c110; omega)]; exact ⟨z2, z3⟩))))) rfl
        · skip
          refine x_iload_n (dtk dt_X6_spreadJumps 11 (19, .iload_n 2, 1) rfl) rfl ?_
          refine x_iconst (v := 1) ⟨by decide, by decide⟩ (dtk dt_X6_spreadJumps 12 (20, .iconst 1, 1) rfl) ?_
          refine x_iload_n (dtk dt_X6_spreadJumps 13 (21, .iload_n 3, 1) rfl) rfl ?_
          refine x_ishl (dtk dt_X6_spreadJumps 14 (22, .ishl, 1) rfl) ?_
          refine x_ior (dtk dt_X6_spreadJumps 15 (23, .ior, 1) rfl) ?_
          change MW G _ _ _ _ _ _ ((0, plus s v3) :: _) _ _ _
          refine x_istore (dtk dt_X6_spreadJumps 16 (24, .istore 4, 2) rfl) (by decide) ?_
          have J51_10 : ∀ (j5 : Bool), (j5 = (decide (s ≠ 0) && dis (M1 13 s) (d v3))) → MW G mi_X6_spreadJumps (rmd 2 0 0) (MZ G (UQ sx none n K M (fun M' => (M' 12 = (foldG m (sjC d s) (M 12, M 13)).1 ∧ M' 13 = (foldG m (sjC d s) (M 12, M 13)).2) ∧ kp M M')) 0 0) (0, 0) 51 [(0, (1, 9)), (1, (1, p)), (2, (0, s)), (3, (0, v3)), (4, (0, plus s v3))] [(0, B j5)] n K (M1) := by
            intro j5 hj5
            refine x_istore (dtk dt_X6_spreadJumps 32 (51, .istore 5, 2) rfl) (by decide) ?_
            have J69_12 : ∀ (j6 : Bool), (j6 = j5) → MW G mi_X6_spreadJumps (rmd 2 0 0) (MZ G (UQ sx none n K M (fun M' => (M' 12 = (foldG m (sjC d s) (M 12, M 13)).1 ∧ M' 13 = (foldG m (sjC d s) (M 12, M 13)).2) ∧ kp M M')) 0 0) (0, 0) 69 [(0, (1, 9)), (1, (1, p)), (2, (0, s)), (3, (0, v3)), (4, (0, plus s v3)), (5, (0, B (j5)))] [(0, B j6), (0, M1 12 s)] n K (M1) := by
              intro j6 hj6
              have hj01 := B_01 j6
              have hF : M1 12 s + B j6 = sjF d s (M1 12, M1 13) v3 := by (unfold sjF; rw [hj6, hj5])
              refine y_iadd (dtk dt_X6_spreadJumps 42 (69, .iadd, 1) rfl) ⟨by omega, by omega⟩ ?_
              refine x_istore (dtk dt_X6_spreadJumps 43 (70, .istore 6, 2) rfl) (by decide) ?_
              have J101_14 : ∀ (M5 : MM), (sx M M5) → (kp M M5) → ((M1 12 s + B j6 < M1 12 (plus s v3) ∧ M5 12 = up (M1 12) (plus s v3) (M1 12 s + B j6) ∧ M5 13 = up (M1 13) (plus s v3) 0) ∨ (M1 12 (plus s v3) ≤ M1 12 s + B j6 ∧ M5 12 = M1 12 ∧ M5 13 = M1 13)) → MW G mi_X6_spreadJumps (rmd 2 0 0) (MZ G (UQ sx none n K M (fun M' => (M' 12 = (foldG m (sjC d s) (M 12, M 13)).1 ∧ M' 13 = (foldG m (sjC d s) (M 12, M 13)).2) ∧ kp M M')) 0 0) (0, 0) 101 [(0, (1, 9)), (1, (1, p)), (2, (0, s)), (3, (0, v3)), (4, (0, plus s v3)), (6, (0, M1 12 s + B j6))] [] n K (M5) := by
                intro M5 hs5 hkp5 hL
                refine x_iload (dtk dt_X6_spreadJumps 60 (101, .iload 6, 2) rfl) rfl ?_
                refine x_aload_n (dtk dt_X6_spreadJumps 61 (103, .aload_n 0, 1) rfl) rfl ?_
                refine fg_X6_18 rfl (dtk dt_X6_spreadJumps 62 (104, .getfield 18, 3) rfl) (wk_9 hO.wf) (wm_9_2 (hO.off_sx hs5).wf) ?_
                refine x_iload (dtk dt_X6_spreadJumps 63 (107, .iload 4, 2) rfl) rfl ?_
                refine x_iald (dtk dt_X6_spreadJumps 64 (109, .iaload, 1) rfl) (wk_12 hO.wf) ⟨by omega, by omega⟩ ?_
                refine x_icmp_ne (tgt := 126) (dtk dt_X6_spreadJumps 65 (110, .if_icmp .ne 16, 3) rfl) (by decide) (fun c110 => ?_) (fun c110 => ?_)
                · skip
                  refine y_iinc (dtk dt_X6_spreadJumps 76 (126, .iinc 3 1, 3) rfl) rfl (by decide) ⟨by omega, by omega⟩ ?_
                  refine x_goto (tgt := 2) (dtk dt_X6_spreadJumps 77 (129, .goto (-127), 3) rfl) (by decide) ?_
                  refine MW.sub [1, 2, 3, 0] rfl ?_
                  exact ih2 _ (by omega) _ _ (by omega) hs5 (by first | exact hkp | exact hkp5 | exact kp.st 13 rfl hkp5) (by rw [foldG_s h1.1]; show _ = (sjC d s (foldG v3 (sjC d s) (M 12, M 13)) v3).1 ∧ _ = (sjC d s (foldG v3 (sjC d s) (M 12, M 13)) v3).2; rw [show sjC d s (foldG v3 (sjC d s) (M 12, M 13)) v3 = sjC d s (M1 12, M1 13) v3 by rw [hw.1, hw.2]]; first | (rw [sjC_no c16]; exact ⟨rfl, rfl⟩) | (rcases hL with ⟨z1, z2, z3⟩ | ⟨z1, z2, z3⟩; (focus (rw [sjC_lt c16 hF z1]; first | (exfalso; rw [z2] at c110; exact c110 (if_pos rfl).symm) | exact ⟨by rw [st2_ne _ (show (12 : Int) ≠ 13 by decide), z2], by rw [st2_up, z3, show up (M1 13) (plus s v3) 0 (plus s v3) = 0 from if_pos rfl, up_up]⟩)); (focus (first | (rw [sjC_eq c16 hF (by rw [z2] at c110; omega)]; exact ⟨by rw [st2_ne _ (show (12 : Int) ≠ 13 by decide), z2], by rw [st2_up, z3]⟩) | (rw [sjC_gt c16 hF (by rw [z2] at c110; omega)]; exact ⟨z2, z3⟩))))) rfl
                · skip
                  refine x_aload_n (dtk dt_X6_spreadJumps 66 (113, .aload_n 0, 1) rfl) rfl ?_
                  refine fg_X6_21 rfl (dtk dt_X6_spreadJumps 67 (114, .getfield 21, 3) rfl) (wk_9 hO.wf) (wm_9_3 (hO.off_sx hs5).wf) ?_
                  refine x_iload (dtk dt_X6_spreadJumps 68 (117, .iload 4, 2) rfl) rfl ?_
                  refine x_dup2 rfl rfl (dtk dt_X6_spreadJumps 69 (119, .dup2, 1) rfl) ?_
                  refine x_iald (dtk dt_X6_spreadJumps 70 (120, .iaload, 1) rfl) (wk_13 hO.wf) ⟨by omega, by omega⟩ ?_
                  refine x_iconst (v := 1) ⟨by decide, by decide⟩ (dtk dt_X6_spreadJumps 71 (121, .iconst 1, 1) rfl) ?_
                  refine x_iload_n (dtk dt_X6_spreadJumps 72 (122, .iload_n 3, 1) rfl) rfl ?_
                  refine x_ishl (dtk dt_X6_spreadJumps 73 (123, .ishl, 1) rfl) ?_
                  refine x_ior (dtk dt_X6_spreadJumps 74 (124, .ior, 1) rfl) ?_
                  refine x_iast (dtk dt_X6_spreadJumps 75 (125, .iastore, 1) rfl) (wk_13 hO.wf) ⟨by omega, by omega⟩ ?_
                  refine y_iinc (dtk dt_X6_spreadJumps 76 (126, .iinc 3 1, 3) rfl) rfl (by decide) ⟨by omega, by omega⟩ ?_
                  refine x_goto (tgt := 2) (dtk dt_X6_spreadJumps 77 (129, .goto (-127), 3) rfl) (by decide) ?_
                  refine MW.sub [1, 2, 3, 0] rfl ?_
                  exact ih2 _ (by omega) _ _ (by omega) (sx.st 13 rfl hs5) (by first | exact hkp | exact hkp5 | exact kp.st 13 rfl hkp5) (by rw [foldG_s h1.1]; show _ = (sjC d s (foldG v3 (sjC d s) (M 12, M 13)) v3).1 ∧ _ = (sjC d s (foldG v3 (sjC d s) (M 12, M 13)) v3).2; rw [show sjC d s (foldG v3 (sjC d s) (M 12, M 13)) v3 = sjC d s (M1 12, M1 13) v3 by rw [hw.1, hw.2]]; first | (rw [sjC_no c16]; exact ⟨rfl, rfl⟩) | (rcases hL with ⟨z1, z2, z3⟩ | ⟨z1, z2, z3⟩; (focus (rw [sjC_lt c16 hF z1]; first | (exfalso; rw [z2] at c110; exact c110 (if_pos rfl).symm) | exact ⟨by rw [st2_ne _ (show (12 : Int) ≠ 13 by decide), z2], by rw [st2_up, z3, show up (M1 13) (plus s v3) 0 (plus s v3) = 0 from if_pos rfl, up_up]⟩)); (focus (first | (rw [sjC_eq c16 hF (by rw [z2] at c110; omega)]; exact ⟨by rw [st2_ne _ (show (12 : Int) ≠ 13 by decide), z2], by rw [st2_up, z3]⟩) | (rw [sjC_gt c16 hF (by rw [z2] at c110; omega)]; exact ⟨z2, z3⟩))))) rfl
              refine x_iload (dtk dt_X6_spreadJumps 44 (72, .iload 6, 2) rfl) rfl ?_
              refine x_aload_n (dtk dt_X6_spreadJumps 45 (74, .aload_n 0, 1) rfl) rfl ?_
              refine fg_X6_18 rfl (dtk dt_X6_spreadJumps 46 (75, .getfield 18, 3) rfl) (wk_9 hO.wf) (wm_9_2 (hO.off_sx hs1).wf) ?_
              refine x_iload (dtk dt_X6_spreadJumps 47 (78, .iload 4, 2) rfl) rfl ?_
              refine x_iald (dtk dt_X6_spreadJumps 48 (80, .iaload, 1) rfl) (wk_12 hO.wf) ⟨by omega, by omega⟩ ?_
              refine x_icmp_ge (tgt := 101) (dtk dt_X6_spreadJumps 49 (81, .if_icmp .ge 20, 3) rfl) (by decide) (fun c81 => ?_) (fun c81 => ?_)
              · skip
                refine MW.sub [1, 2, 3, 4, 5, 0] rfl ?_
                exact J101_14 _ hs1 (by first | exact hkp | exact kp.st 13 rfl (kp.st 12 rfl hkp)) (by first | exact Or.inr ⟨c81, rfl, rfl⟩ | exact Or.inl ⟨by omega, by rw [st2_ne _ (show (12 : Int) ≠ 13 by decide), st2_up], by rw [st2_up, st2_ne _ (show (13 : Int) ≠ 12 by decide)]⟩)
              · skip
                refine x_aload_n (dtk dt_X6_spreadJumps 50 (84, .aload_n 0, 1) rfl) rfl ?_
                refine fg_X6_18 rfl (dtk dt_X6_spreadJumps 51 (85, .getfield 18, 3) rfl) (wk_9 hO.wf) (wm_9_2 (hO.off_sx hs1).wf) ?_
                refine x_iload (dtk dt_X6_spreadJumps 52 (88, .iload 4, 2) rfl) rfl ?_
                refine x_iload (dtk dt_X6_spreadJumps 53 (90, .iload 6, 2) rfl) rfl ?_
                refine x_iast (dtk dt_X6_spreadJumps 54 (92, .iastore, 1) rfl) (wk_12 hO.wf) ⟨by omega, by omega⟩ ?_
                refine x_aload_n (dtk dt_X6_spreadJumps 55 (93, .aload_n 0, 1) rfl) rfl ?_
                refine fg_X6_21 rfl (dtk dt_X6_spreadJumps 56 (94, .getfield 21, 3) rfl) (wk_9 hO.wf) (wm_9_3 (hO.off_sx (sx.st 12 rfl hs1)).wf) ?_
                refine x_iload (dtk dt_X6_spreadJumps 57 (97, .iload 4, 2) rfl) rfl ?_
                refine x_iconst (v := 0) ⟨by decide, by decide⟩ (dtk dt_X6_spreadJumps 58 (99, .iconst 0, 1) rfl) ?_
                refine x_iast (dtk dt_X6_spreadJumps 59 (100, .iastore, 1) rfl) (wk_13 hO.wf) ⟨by omega, by omega⟩ ?_
                refine MW.sub [1, 2, 3, 4, 5, 0] rfl ?_
                exact J101_14 _ (sx.st 13 rfl (sx.st 12 rfl hs1)) (by first | exact hkp | exact kp.st 13 rfl (kp.st 12 rfl hkp)) (by first | exact Or.inr ⟨c81, rfl, rfl⟩ | exact Or.inl ⟨by omega, by rw [st2_ne _ (show (12 : Int) ≠ 13 by decide), st2_up], by rw [st2_up, st2_ne _ (show (13 : Int) ≠ 12 by decide)]⟩)
            refine x_aload_n (dtk dt_X6_spreadJumps 33 (53, .aload_n 0, 1) rfl) rfl ?_
            refine fg_X6_18 rfl (dtk dt_X6_spreadJumps 34 (54, .getfield 18, 3) rfl) (wk_9 hO.wf) (wm_9_2 (hO.off_sx hs1).wf) ?_
            refine x_iload_n (dtk dt_X6_spreadJumps 35 (57, .iload_n 2, 1) rfl) rfl ?_
            refine x_iald (dtk dt_X6_spreadJumps 36 (58, .iaload, 1) rfl) (wk_12 hO.wf) ⟨by omega, by omega⟩ ?_
            refine x_iload (dtk dt_X6_spreadJumps 37 (59, .iload 5, 2) rfl) rfl ?_
            refine x_if_eqB (tgt := 68) (dtk dt_X6_spreadJumps 38 (61, .ifCond .eq 7, 3) rfl) (by decide) (fun c61 => ?_) (fun c61 => ?_)
            · skip
              refine x_iconst (v := 0) ⟨by decide, by decide⟩ (dtk dt_X6_spreadJumps 41 (68, .iconst 0, 1) rfl) ?_
              refine MW.sub [1, 2, 3, 4, 5, 0] rfl ?_
              exact J69_12 false (by simp_all)
            · skip
              refine x_iconst (v := 1) ⟨by decide, by decide⟩ (dtk dt_X6_spreadJumps 39 (64, .iconst 1, 1) rfl) ?_
              refine x_goto (tgt := 69) (dtk dt_X6_spreadJumps 40 (65, .goto 4, 3) rfl) (by decide) ?_
              refine MW.sub [1, 2, 3, 4, 5, 0] rfl ?_
              exact J69_12 true (by simp_all)
          refine x_iload_n (dtk dt_X6_spreadJumps 17 (26, .iload_n 2, 1) rfl) rfl ?_
          refine x_if_eq (tgt := 50) (dtk dt_X6_spreadJumps 18 (27, .ifCond .eq 23, 3) rfl) (by decide) (fun c27 => ?_) (fun c27 => ?_)
          · skip
            refine x_iconst (v := 0) ⟨by decide, by decide⟩ (dtk dt_X6_spreadJumps 31 (50, .iconst 0, 1) rfl) ?_
            refine MW.sub [1, 2, 3, 4, 0] rfl ?_
            exact J51_10 false (by unfold dis; simp_all)
          · skip
            refine x_aload_n (dtk dt_X6_spreadJumps 19 (30, .aload_n 0, 1) rfl) rfl ?_
            refine fg_X6_21 rfl (dtk dt_X6_spreadJumps 20 (31, .getfield 21, 3) rfl) (wk_9 hO.wf) (wm_9_3 (hO.off_sx hs1).wf) ?_
            refine x_iload_n (dtk dt_X6_spreadJumps 21 (34, .iload_n 2, 1) rfl) rfl ?_
            refine x_iald (dtk dt_X6_spreadJumps 22 (35, .iaload, 1) rfl) (wk_13 hO.wf) ⟨by omega, by omega⟩ ?_
            refine x_aload_n (dtk dt_X6_spreadJumps 23 (36, .aload_n 1, 1) rfl) rfl ?_
            refine fg_X6_32 rfl (dtk dt_X6_spreadJumps 24 (37, .getfield 32, 3) rfl) hO.k hO.c (hO.off_sx hs1).dn ?_
            refine x_iload_n (dtk dt_X6_spreadJumps 25 (40, .iload_n 3, 1) rfl) rfl ?_
            refine x_iald (dtk dt_X6_spreadJumps 26 (41, .iaload, 1) rfl) hO.kd ⟨by omega, by omega⟩ ?_
            rw [(hO.off_sx hs1).dat ⟨by omega, by omega⟩]
            refine x_iand (dtk dt_X6_spreadJumps 27 (42, .iand, 1) rfl) ?_
            refine x_if_ne (tgt := 50) (dtk dt_X6_spreadJumps 28 (43, .ifCond .ne 7, 3) rfl) (by decide) (fun c43 => ?_) (fun c43 => ?_)
            · skip
              refine x_iconst (v := 0) ⟨by decide, by decide⟩ (dtk dt_X6_spreadJumps 31 (50, .iconst 0, 1) rfl) ?_
              refine MW.sub [1, 2, 3, 4, 0] rfl ?_
              exact J51_10 false (by unfold dis; simp_all)
            · skip
              refine x_iconst (v := 1) ⟨by decide, by decide⟩ (dtk dt_X6_spreadJumps 29 (46, .iconst 1, 1) rfl) ?_
              refine x_goto (tgt := 51) (dtk dt_X6_spreadJumps 30 (47, .goto 4, 3) rfl) (by decide) ?_
              refine MW.sub [1, 2, 3, 4, 0] rfl ?_
              exact J51_10 true (by unfold dis; simp_all)
  refine MW.sub [1, 2, 3, 0] rfl ?_
  exact L2 _ _ _ (by omega) sx.rf kp.rf ⟨rfl, rfl⟩ rfl
set_option maxRecDepth 100000 in
set_option maxHeartbeats 4000000 in
theorem c_X6_leastJumps {G : GG} {n : Nat} {K : KK} {M : MM} {p nm m : Int} {ci : Nat} {d : Int → Int} (hO : OB K M p ci nm m d) (hR : RC K M) : MC G mi_X6_leastJumps 4 0 0 [(1, 9), (1, p)] n K M (UQ sx (some (0, ljC m d)) n K M (fun M' => RC K M')) := by
  refine MC.intro (lc := [(0, (1, 9)), (1, (1, p))]) (by decide) rfl (by simp [Nat.ble]) (Nat.le_of_ble_eq_true rfl) rfl (fun hMR => ?_)
  have hsz := hO.sz
  have hp := p2_b hsz
  refine x_aload_n (dtk dt_X6_leastJumps 0 (0, .aload_n 0, 1) rfl) rfl ?_
  refine x_aload_n (dtk dt_X6_leastJumps 1 (1, .aload_n 1, 1) rfl) rfl ?_
  refine kc_X6_58 rfl (dtk dt_X6_leastJumps 2 (2, .invokevirtual 58, 3) rfl) (c_X6_countWays (G := G)  hO hR) rfl rfl (wk_9 hO.wf) (fitR (by decide) (by decide)) (Nat.le_of_ble_eq_true rfl) (uqK (fun M2_1 hs2_1 hE2_1 => ?_))
  have hE := hE2_1
  have hs0 := hs2_1
  refine x_aload_n (dtk dt_X6_leastJumps 3 (5, .aload_n 1, 1) rfl) rfl ?_
  refine kc_X6_40 rfl (dtk dt_X6_leastJumps 4 (6, .invokevirtual 40, 3) rfl) (c_X4_all (G := G)  (hO.off_sx hs2_1)) rfl rfl hO.k hO.c (fitR (by decide) (by decide)) (Nat.le_of_ble_eq_true rfl) (pqK ?_)
  refine x_istore_n (dtk dt_X6_leastJumps 5 (9, .istore_n 2, 1) rfl) (by decide) ?_
  refine x_iconst (v := 0) ⟨by decide, by decide⟩ (dtk dt_X6_leastJumps 6 (10, .iconst 0, 1) rfl) ?_
  refine x_istore_n (dtk dt_X6_leastJumps 7 (11, .istore_n 3, 1) rfl) (by decide) ?_
  have L12 : ∀ (fu : Nat) (v3 : Int) (M1 : MM), (0 ≤ v3 ∧ v3 ≤ p2 m) → (sx M M1) → (kp M2_1 M1) → (∀ t, 0 ≤ t → t < v3 → M1 12 t = 10 ∧ M1 13 t = 0) → (p2 m - v3).toNat = fu → MW G mi_X6_leastJumps (rmd 4 0 0) (MZ G (UQ sx (some (0, ljC m d)) n K M (fun M' => RC K M')) 0 0) (0, 0) 12 [(0, (1, 9)), (1, (1, p)), (2, (0, p2 m - 1)), (3, (0, v3))] [] n K (M1) := by
    intro fu
    induction fu using Nat.strongRecOn with
    | ind fu ih12 =>
      intro v3 M1 h1 hs1 hkp1 hw1 hk12
      refine x_iload_n (dtk dt_X6_leastJumps 8 (12, .iload_n 3, 1) rfl) rfl ?_
      refine x_iload_n (dtk dt_X6_leastJumps 9 (13, .iload_n 2, 1) rfl) rfl ?_
      refine x_icmp_gt (tgt := 38) (dtk dt_X6_leastJumps 10 (14, .if_icmp .gt 24, 3) rfl) (by decide) (fun c14 => ?_) (fun c14 => ?_)
      · skip
        refine x_aload_n (dtk dt_X6_leastJumps 23 (38, .aload_n 0, 1) rfl) rfl ?_
        refine fg_X6_18 rfl (dtk dt_X6_leastJumps 24 (39, .getfield 18, 3) rfl) (wk_9 hO.wf) (wm_9_2 (hO.off_sx hs1).wf) ?_
        refine x_iconst (v := 0) ⟨by decide, by decide⟩ (dtk dt_X6_leastJumps 25 (42, .iconst 0, 1) rfl) ?_
        refine x_iconst (v := 0) ⟨by decide, by decide⟩ (dtk dt_X6_leastJumps 26 (43, .iconst 0, 1) rfl) ?_
        refine x_iast (dtk dt_X6_leastJumps 27 (44, .iastore, 1) rfl) (wk_12 hO.wf) ⟨by omega, by omega⟩ ?_
        refine x_iconst (v := 0) ⟨by decide, by decide⟩ (dtk dt_X6_leastJumps 28 (45, .iconst 0, 1) rfl) ?_
        refine x_istore_n (dtk dt_X6_leastJumps 29 (46, .istore_n 3, 1) rfl) (by decide) ?_
        have L47 : ∀ (fu : Nat) (v3 : Int) (M2 : MM), (0 ≤ v3 ∧ v3 ≤ p2 m - 1) → (sx M M2) → (kp M2_1 M2) → (agr m (M2 12, M2 13) (ljS m d v3)) → (sjB m (M2 12, M2 13)) → (p2 m - 1 - v3).toNat = fu → MW G mi_X6_leastJumps (rmd 4 0 0) (MZ G (UQ sx (some (0, ljC m d)) n K M (fun M' => RC K M')) 0 0) (0, 0) 47 [(0, (1, 9)), (1, (1, p)), (2, (0, p2 m - 1)), (3, (0, v3))] [] n K (M2) := by
          intro fu
          induction fu using Nat.strongRecOn with
          | ind fu ih47 =>
            intro v3 M2 h3 hs2 hkp2 hg2 hB2 hk47
            refine x_iload_n (dtk dt_X6_leastJumps 30 (47, .iload_n 3, 1) rfl) rfl ?_
            refine x_iload_n (dtk dt_X6_leastJumps 31 (48, .iload_n 2, 1) rfl) rfl ?_
            refine x_icmp_ge (tgt := 73) (dtk dt_X6_leastJumps 32 (49, .if_icmp .ge 24, 3) rfl) (by decide) (fun c49 => ?_) (fun c49 => ?_)
            · skip
              refine x_aload_n (dtk dt_X6_leastJumps 44 (73, .aload_n 0, 1) rfl) rfl ?_
              refine fg_X6_18 rfl (dtk dt_X6_leastJumps 45 (74, .getfield 18, 3) rfl) (wk_9 hO.wf) (wm_9_2 (hO.off_sx hs2).wf) ?_
              refine x_iload_n (dtk dt_X6_leastJumps 46 (77, .iload_n 2, 1) rfl) rfl ?_
              refine x_iald (dtk dt_X6_leastJumps 47 (78, .iaload, 1) rfl) (wk_12 hO.wf) ⟨by omega, by omega⟩ ?_
              rw [show M2 12 (p2 m - 1) = (ljS m d v3).1 (p2 m - 1) from (hg2 _ (by omega) (by omega)).1]
              exact ru_i (dtk dt_X6_leastJumps 48 (79, .ireturn, 1) rfl) rfl (by rw [show v3 = p2 m - 1 by omega]; rfl) hs2 (hE.1.kp (fun x hx => by rw [hs2.hi x hx, hs0.hi x hx]) hkp2)
            · skip
              refine x_aload_n (dtk dt_X6_leastJumps 33 (52, .aload_n 0, 1) rfl) rfl ?_
              refine fg_X6_9 rfl (dtk dt_X6_leastJumps 34 (53, .getfield 9, 3) rfl) (wk_9 hO.wf) (wm_9_0 (hO.off_sx hs2).wf) ?_
              refine x_iload_n (dtk dt_X6_leastJumps 35 (56, .iload_n 3, 1) rfl) rfl ?_
              refine x_iald (dtk dt_X6_leastJumps 36 (57, .iaload, 1) rfl) (wk_10 hO.wf) ⟨by omega, by omega⟩ ?_
              rw [hkp2.2.1, (hE.2 v3 (by omega) (by omega)).1]
              refine x_if_eq (tgt := 67) (dtk dt_X6_leastJumps 37 (58, .ifCond .eq 9, 3) rfl) (by decide) (fun c58 => ?_) (fun c58 => ?_)
              · skip
                refine y_iinc (dtk dt_X6_leastJumps 42 (67, .iinc 3 1, 3) rfl) rfl (by decide) ⟨by omega, by omega⟩ ?_
                refine x_goto (tgt := 47) (dtk dt_X6_leastJumps 43 (70, .goto (-23), 3) rfl) (by decide) ?_
                refine MW.sub [1, 2, 3, 0] rfl ?_
                exact ih47 _ (by omega) _ _ (by omega) hs2 (by first | exact hkp2 | exact ⟨hE2.2.1.trans hkp2.1, hE2.2.2.1.trans hkp2.2.1, hE2.2.2.2.trans hkp2.2.2⟩) (by rw [ljS_s h3.1]; first | (rw [if_pos c58]; exact hg2) | (rw [if_neg c58, hE2.1.1, hE2.1.2]; exact sjG_agr hsz ⟨h3.1, by omega⟩ hg2)) (by first | exact hB2 | (rw [hE2.1.1, hE2.1.2]; have hz := sjG_B (d := d) hsz (s := v3) ⟨h3.1, by omega⟩ hB2 m.toNat (by omega); rw [show ((m.toNat : Nat) : Int) = m by omega] at hz; exact hz)) rfl
              · skip
                refine x_aload_n (dtk dt_X6_leastJumps 38 (61, .aload_n 0, 1) rfl) rfl ?_
                refine x_aload_n (dtk dt_X6_leastJumps 39 (62, .aload_n 1, 1) rfl) rfl ?_
                refine x_iload_n (dtk dt_X6_leastJumps 40 (63, .iload_n 3, 1) rfl) rfl ?_
                refine kc_X6_109 rfl (dtk dt_X6_leastJumps 41 (64, .invokevirtual 109, 3) rfl) (c_X6_spreadJumps (G := G) (s := v3) (hO.off_sx hs2) (by omega) hB2) rfl rfl (wk_9 hO.wf) (fitR (by decide) (by decide)) (Nat.le_of_ble_eq_true rfl) (uqK (fun M64_2 hs64_2 hE64_2 => ?_))
                have hE2 := hE64_2
                refine y_iinc (dtk dt_X6_leastJumps 42 (67, .iinc 3 1, 3) rfl) rfl (by decide) ⟨by omega, by omega⟩ ?_
                refine x_goto (tgt := 47) (dtk dt_X6_leastJumps 43 (70, .goto (-23), 3) rfl) (by decide) ?_
                refine MW.sub [1, 2, 3, 0] rfl ?_
                exact ih47 _ (by omega) _ _ (by omega) (hs2.tr hs64_2) (by first | exact hkp2 | exact ⟨hE2.2.1.trans hkp2.1, hE2.2.2.1.trans hkp2.2.1, hE2.2.2.2.trans hkp2.2.2⟩) (by rw [ljS_s h3.1]; first | (rw [if_pos c58]; exact hg2) | (rw [if_neg c58, hE2.1.1, hE2.1.2]; exact sjG_agr hsz ⟨h3.1, by omega⟩ hg2)) (by first | exact hB2 | (rw [hE2.1.1, hE2.1.2]; have hz := sjG_B (d := d) hsz (s := v3) ⟨h3.1, by omega⟩ hB2 m.toNat (by omega); rw [show ((m.toNat : Nat) : Int) = m by omega] at hz; exact hz)) rfl
        refine MW.sub [1, 2, 3, 0] rfl ?_
        exact L47 _ _ _ (by omega) (sx.st 12 rfl hs1) (kp.st 12 rfl hkp1) (fun t t0 t1 => by show st2 M1 12 0 0 12 t = (if t = 0 then 0 else 10) ∧ st2 M1 12 0 0 13 t = 0; rw [st2_up, st2_ne _ (show (13 : Int) ≠ 12 by decide)]; refine ⟨?_, (hw1 t t0 (by omega)).2⟩; show (if t = 0 then _ else _) = _; split; rfl; exact (hw1 t t0 (by omega)).1) (fun t t0 t1 => by show (0 ≤ st2 M1 12 0 0 12 t ∧ st2 M1 12 0 0 12 t ≤ 10) ∧ (0 ≤ st2 M1 12 0 0 13 t ∧ st2 M1 12 0 0 13 t < 1024); rw [st2_up, st2_ne _ (show (13 : Int) ≠ 12 by decide)]; unfold up; have hz := hw1 t t0 (by omega); refine ⟨?_, by omega⟩; split <;> omega) rfl
      · skip
        refine x_aload_n (dtk dt_X6_leastJumps 11 (17, .aload_n 0, 1) rfl) rfl ?_
        refine fg_X6_18 rfl (dtk dt_X6_leastJumps 12 (18, .getfield 18, 3) rfl) (wk_9 hO.wf) (wm_9_2 (hO.off_sx hs1).wf) ?_
        refine x_iload_n (dtk dt_X6_leastJumps 13 (21, .iload_n 3, 1) rfl) rfl ?_
        refine x_bipush (v := 10) ⟨by decide, by decide⟩ (dtk dt_X6_leastJumps 14 (22, .bipush 10, 2) rfl) ?_
        refine x_iast (dtk dt_X6_leastJumps 15 (24, .iastore, 1) rfl) (wk_12 hO.wf) ⟨by omega, by omega⟩ ?_
        refine x_aload_n (dtk dt_X6_leastJumps 16 (25, .aload_n 0, 1) rfl) rfl ?_
        refine fg_X6_21 rfl (dtk dt_X6_leastJumps 17 (26, .getfield 21, 3) rfl) (wk_9 hO.wf) (wm_9_3 (hO.off_sx (sx.st 12 rfl hs1)).wf) ?_
        refine x_iload_n (dtk dt_X6_leastJumps 18 (29, .iload_n 3, 1) rfl) rfl ?_
        refine x_iconst (v := 0) ⟨by decide, by decide⟩ (dtk dt_X6_leastJumps 19 (30, .iconst 0, 1) rfl) ?_
        refine x_iast (dtk dt_X6_leastJumps 20 (31, .iastore, 1) rfl) (wk_13 hO.wf) ⟨by omega, by omega⟩ ?_
        refine y_iinc (dtk dt_X6_leastJumps 21 (32, .iinc 3 1, 3) rfl) rfl (by decide) ⟨by omega, by omega⟩ ?_
        refine x_goto (tgt := 12) (dtk dt_X6_leastJumps 22 (35, .goto (-23), 3) rfl) (by decide) ?_
        refine MW.sub [1, 2, 3, 0] rfl ?_
        exact ih12 _ (by omega) _ _ (by omega) (sx.st 13 rfl (sx.st 12 rfl hs1)) (kp.st 13 rfl (kp.st 12 rfl hkp1)) (fun t t0 t1 => by rw [st2_ne _ (show (12 : Int) ≠ 13 by decide), st2_up, st2_up, st2_ne _ (show (13 : Int) ≠ 12 by decide)]; unfold up; by_cases hq : t = v3; (rw [if_pos hq, if_pos hq]; exact ⟨rfl, rfl⟩); (rw [if_neg hq, if_neg hq]; exact hw1 t t0 (by omega))) rfl
  refine MW.sub [2, 3, 1, 0] rfl ?_
  exact L12 _ _ _ (by omega) hs2_1 kp.rf (fun t t0 t1 => by omega) rfl
set_option maxRecDepth 100000 in
set_option maxHeartbeats 4000000 in
theorem c_X1_isLattice {G : GG} {n : Nat} {K : KK} {M : MM} {p nm m : Int} {ci : Nat} {d : Int → Int} (hO : OB K M p ci nm m d) : MC G mi_X1_isLattice 2 0 0 [(1, 14), (1, p)] n K M (UQ sx (some (0, B (latt m d))) n K M (fun M' => kp M M' ∧ (latt m d = true → BD M' m d))) := by
  refine MC.intro (lc := [(0, (1, 14)), (1, (1, p))]) (by decide) rfl (by simp [Nat.ble]) (Nat.le_of_ble_eq_true rfl) rfl (fun hMR => ?_)
  have hsz := hO.sz
  refine x_iconst (v := 0) ⟨by decide, by decide⟩ (dtk dt_X1_isLattice 0 (0, .iconst 0, 1) rfl) ?_
  refine x_istore_n (dtk dt_X1_isLattice 1 (1, .istore_n 2, 1) rfl) (by decide) ?_
  have L2 : ∀ (fu : Nat) (v2 : Int) (M1 : MM), (0 ≤ v2 ∧ v2 ≤ m) → (sx M M1) → (kp M M1) → (allB v2 (fun a => allB m (fun b => decide (bnd m d 0 a b ≠ -1) && decide (bnd m d 1 a b ≠ -1))) = true) → (∀ a b, 0 ≤ a → a < v2 → 0 ≤ b → b < m → M1 15 (a * 10 + b) = bnd m d 0 a b ∧ M1 16 (a * 10 + b) = bnd m d 1 a b) → (m - v2).toNat = fu → MW G mi_X1_isLattice (rmd 2 0 0) (MZ G (UQ sx (some (0, B (latt m d))) n K M (fun M' => kp M M' ∧ (latt m d = true → BD M' m d))) 0 0) (0, 0) 2 [(0, (1, 14)), (1, (1, p)), (2, (0, v2))] [] n K (M1) := by
    intro fu
    induction fu using Nat.strongRecOn with
    | ind fu ih2 =>
      intro v2 M1 h1 hs1 hkp1 h2 hw1 hk2
      refine x_iload_n (dtk dt_X1_isLattice 2 (2, .iload_n 2, 1) rfl) rfl ?_
      refine x_aload_n (dtk dt_X1_isLattice 3 (3, .aload_n 1, 1) rfl) rfl ?_
      refine fg_X1_21 rfl (dtk dt_X1_isLattice 4 (4, .getfield 21, 3) rfl) hO.k hO.c (hO.off_sx hs1).n ?_
      refine x_icmp_ge (tgt := 88) (dtk dt_X1_isLattice 5 (7, .if_icmp .ge 81, 3) rfl) (by decide) (fun c7 => ?_) (fun c7 => ?_)
      · skip
        refine x_aload_n (dtk dt_X1_isLattice 52 (88, .aload_n 1, 1) rfl) rfl ?_
        refine fg_X1_21 rfl (dtk dt_X1_isLattice 53 (89, .getfield 21, 3) rfl) hO.k hO.c (hO.off_sx hs1).n ?_
        refine x_if_le (tgt := 99) (dtk dt_X1_isLattice 54 (92, .ifCond .le 7, 3) rfl) (by decide) (fun c92 => ?_) (fun c92 => ?_)
        · skip
          refine x_iconst (v := 0) ⟨by decide, by decide⟩ (dtk dt_X1_isLattice 57 (99, .iconst 0, 1) rfl) ?_
          exact ru_b (b := false) (dtk dt_X1_isLattice 58 (100, .ireturn, 1) rfl) rfl (by unfold latt; rw [show v2 = m by omega] at h2; rw [h2]; simp; omega) hs1 ⟨hkp1, fun _ a b a0 a1 b0 b1 => hw1 a b a0 (by omega) b0 b1⟩
        · skip
          refine x_iconst (v := 1) ⟨by decide, by decide⟩ (dtk dt_X1_isLattice 55 (95, .iconst 1, 1) rfl) ?_
          refine x_goto (tgt := 100) (dtk dt_X1_isLattice 56 (96, .goto 4, 3) rfl) (by decide) ?_
          exact ru_b (b := true) (dtk dt_X1_isLattice 58 (100, .ireturn, 1) rfl) rfl (by unfold latt; rw [show v2 = m by omega] at h2; rw [h2]; simp; omega) hs1 ⟨hkp1, fun _ a b a0 a1 b0 b1 => hw1 a b a0 (by omega) b0 b1⟩
      · skip
        refine x_iconst (v := 0) ⟨by decide, by decide⟩ (dtk dt_X1_isLattice 6 (10, .iconst 0, 1) rfl) ?_
        refine x_istore_n (dtk dt_X1_isLattice 7 (11, .istore_n 3, 1) rfl) (by decide) ?_
        have L12 : ∀ (fu : Nat) (v3 : Int) (M2 : MM), (0 ≤ v3 ∧ v3 ≤ m) → (sx M M2) → (kp M M2) → (allB v3 (fun b => decide (bnd m d 0 v2 b ≠ -1) && decide (bnd m d 1 v2 b ≠ -1)) = true) → (∀ a b, 0 ≤ a → a ≤ v2 → 0 ≤ b → b < m → (a < v2 ∨ b < v3) → M2 15 (a * 10 + b) = bnd m d 0 a b ∧ M2 16 (a * 10 + b) = bnd m d 1 a b) → (m - v3).toNat = fu → MW G mi_X1_isLattice (rmd 2 0 0) (MZ G (UQ sx (some (0, B (latt m d))) n K M (fun M' => kp M M' ∧ (latt m d = true → BD M' m d))) 0 0) (0, 0) 12 [(0, (1, 14)), (1, (1, p)), (2, (0, v2)), (3, (0, v3))] [] n K (M2) := by
          intro fu
          induction fu using Nat.strongRecOn with
          | ind fu ih12 =>
            intro v3 M2 h3 hs2 hkp2 h4 hw2 hk12
            refine x_iload_n (dtk dt_X1_isLattice 8 (12, .iload_n 3, 1) rfl) rfl ?_
            refine x_aload_n (dtk dt_X1_isLattice 9 (13, .aload_n 1, 1) rfl) rfl ?_
            refine fg_X1_21 rfl (dtk dt_X1_isLattice 10 (14, .getfield 21, 3) rfl) hO.k hO.c (hO.off_sx hs2).n ?_
            refine x_icmp_ge (tgt := 82) (dtk dt_X1_isLattice 11 (17, .if_icmp .ge 65, 3) rfl) (by decide) (fun c17 => ?_) (fun c17 => ?_)
            · skip
              refine y_iinc (dtk dt_X1_isLattice 50 (82, .iinc 2 1, 3) rfl) rfl (by decide) ⟨by omega, by omega⟩ ?_
              refine x_goto (tgt := 2) (dtk dt_X1_isLattice 51 (85, .goto (-83), 3) rfl) (by decide) ?_
              refine MW.sub [1, 2, 0] rfl ?_
              exact ih2 _ (by omega) _ _ (by omega) hs2 hkp2 (by rw [show v3 = m by omega] at h4; rw [allB_s h1.1, h2, h4]; rfl) (fun a b a0 a1 b0 b1 => hw2 a b a0 (by omega) b0 b1 (by omega)) rfl
            · skip
              refine x_aload_n (dtk dt_X1_isLattice 12 (20, .aload_n 1, 1) rfl) rfl ?_
              refine x_iload_n (dtk dt_X1_isLattice 13 (21, .iload_n 2, 1) rfl) rfl ?_
              refine x_iload_n (dtk dt_X1_isLattice 14 (22, .iload_n 3, 1) rfl) rfl ?_
              refine kc_X1_27 rfl (dtk dt_X1_isLattice 15 (23, .invokevirtual 27, 3) rfl) (c_X4_leastAbove (G := G)  (hO.off_sx hs2) (by omega) (by omega)) rfl rfl hO.k hO.c (fitR (by decide) (by decide)) (Nat.le_of_ble_eq_true rfl) (pqK ?_)
              refine x_istore (dtk dt_X1_isLattice 16 (26, .istore 4, 2) rfl) (by decide) ?_
              refine x_aload_n (dtk dt_X1_isLattice 17 (28, .aload_n 1, 1) rfl) rfl ?_
              refine x_iload_n (dtk dt_X1_isLattice 18 (29, .iload_n 2, 1) rfl) rfl ?_
              refine x_iload_n (dtk dt_X1_isLattice 19 (30, .iload_n 3, 1) rfl) rfl ?_
              refine kc_X1_31 rfl (dtk dt_X1_isLattice 20 (31, .invokevirtual 31, 3) rfl) (c_X4_greatestUnder (G := G)  (hO.off_sx hs2) (by omega) (by omega)) rfl rfl hO.k hO.c (fitR (by decide) (by decide)) (Nat.le_of_ble_eq_true rfl) (pqK ?_)
              refine x_istore (dtk dt_X1_isLattice 21 (34, .istore 5, 2) rfl) (by decide) ?_
              refine x_iload (dtk dt_X1_isLattice 22 (36, .iload 4, 2) rfl) rfl ?_
              refine x_iconst (v := -1) ⟨by decide, by decide⟩ (dtk dt_X1_isLattice 23 (38, .iconst (-1), 1) rfl) ?_
              refine x_icmp_eq (tgt := 48) (dtk dt_X1_isLattice 24 (39, .if_icmp .eq 9, 3) rfl) (by decide) (fun c39 => ?_) (fun c39 => ?_)
              · skip
                refine x_iconst (v := 0) ⟨by decide, by decide⟩ (dtk dt_X1_isLattice 28 (48, .iconst 0, 1) rfl) ?_
                exact ru_b (b := false) (dtk dt_X1_isLattice 29 (49, .ireturn, 1) rfl) rfl (by symm; rw [Bool.eq_false_iff]; intro hq; unfold latt at hq; rw [Bool.and_eq_true, allB_iff] at hq; have hz := allB_iff.mp (hq.2 v2 h1.1 (by omega)) v3 h3.1 (by omega); rw [Bool.and_eq_true, decide_eq_true_eq, decide_eq_true_eq] at hz; first | exact hz.1 (by omega) | exact hz.2 (by omega)) hs2 ⟨hkp2, fun hq => by (exfalso; unfold latt at hq; rw [Bool.and_eq_true, allB_iff] at hq; have hz := allB_iff.mp (hq.2 v2 h1.1 (by omega)) v3 h3.1 (by omega); rw [Bool.and_eq_true, decide_eq_true_eq, decide_eq_true_eq] at hz; first | exact hz.1 (by omega) | exact hz.2 (by omega))⟩
              · skip
                refine x_iload (dtk dt_X1_isLattice 25 (42, .iload 5, 2) rfl) rfl ?_
                refine x_iconst (v := -1) ⟨by decide, by decide⟩ (dtk dt_X1_isLattice 26 (44, .iconst (-1), 1) rfl) ?_
                refine x_icmp_ne (tgt := 50) (dtk dt_X1_isLattice 27 (45, .if_icmp .ne 5, 3) rfl) (by decide) (fun c45 => ?_) (fun c45 => ?_)
                · skip
                  refine x_aload_n (dtk dt_X1_isLattice 30 (50, .aload_n 0, 1) rfl) rfl ?_
                  refine fg_X1_9 rfl (dtk dt_X1_isLattice 31 (51, .getfield 9, 3) rfl) (wk_14 hO.wf) (wm_14_0 (hO.off_sx hs2).wf) ?_
                  refine x_iload_n (dtk dt_X1_isLattice 32 (54, .iload_n 2, 1) rfl) rfl ?_
                  refine x_bipush (v := 10) ⟨by decide, by decide⟩ (dtk dt_X1_isLattice 33 (55, .bipush 10, 2) rfl) ?_
                  refine y_imul (dtk dt_X1_isLattice 34 (57, .imul, 1) rfl) ⟨by omega, by omega⟩ ?_
                  refine x_iload_n (dtk dt_X1_isLattice 35 (58, .iload_n 3, 1) rfl) rfl ?_
                  refine y_iadd (dtk dt_X1_isLattice 36 (59, .iadd, 1) rfl) ⟨by omega, by omega⟩ ?_
                  refine x_iload (dtk dt_X1_isLattice 37 (60, .iload 4, 2) rfl) rfl ?_
                  refine x_iast (dtk dt_X1_isLattice 38 (62, .iastore, 1) rfl) (wk_15 hO.wf) ⟨by omega, by omega⟩ ?_
                  refine x_aload_n (dtk dt_X1_isLattice 39 (63, .aload_n 0, 1) rfl) rfl ?_
                  refine fg_X1_15 rfl (dtk dt_X1_isLattice 40 (64, .getfield 15, 3) rfl) (wk_14 hO.wf) (wm_14_1 (hO.off_sx (sx.st 15 rfl hs2)).wf) ?_
                  refine x_iload_n (dtk dt_X1_isLattice 41 (67, .iload_n 2, 1) rfl) rfl ?_
                  refine x_bipush (v := 10) ⟨by decide, by decide⟩ (dtk dt_X1_isLattice 42 (68, .bipush 10, 2) rfl) ?_
                  refine y_imul (dtk dt_X1_isLattice 43 (70, .imul, 1) rfl) ⟨by omega, by omega⟩ ?_
                  refine x_iload_n (dtk dt_X1_isLattice 44 (71, .iload_n 3, 1) rfl) rfl ?_
                  refine y_iadd (dtk dt_X1_isLattice 45 (72, .iadd, 1) rfl) ⟨by omega, by omega⟩ ?_
                  refine x_iload (dtk dt_X1_isLattice 46 (73, .iload 5, 2) rfl) rfl ?_
                  refine x_iast (dtk dt_X1_isLattice 47 (75, .iastore, 1) rfl) (wk_16 hO.wf) ⟨by omega, by omega⟩ ?_
                  refine y_iinc (dtk dt_X1_isLattice 48 (76, .iinc 3 1, 3) rfl) rfl (by decide) ⟨by omega, by omega⟩ ?_
                  refine x_goto (tgt := 12) (dtk dt_X1_isLattice 49 (79, .goto (-67), 3) rfl) (by decide) ?_
                  refine MW.sub [3, 4, 5, 0] rfl ?_
                  exact ih12 _ (by omega) _ _ (by omega) (sx.st 16 rfl (sx.st 15 rfl hs2)) (kp.st 16 rfl (kp.st 15 rfl hkp2)) (by rw [allB_s h3.1, h4, decide_eq_true c39, decide_eq_true c45]; rfl) (fun a b a0 a1 b0 b1 hor => by rw [st2_ne _ (show (15 : Int) ≠ 16 by decide), st2_up, st2_up, st2_ne _ (show (16 : Int) ≠ 15 by decide)]; unfold up; by_cases hq : a * 10 + b = v2 * 10 + v3; (have e1 : a = v2 := (by omega); have e2 : b = v3 := (by omega); rw [if_pos hq, if_pos hq, e1, e2]; exact ⟨rfl, rfl⟩); (rw [if_neg hq, if_neg hq]; exact hw2 a b a0 a1 b0 b1 (by omega))) rfl
                · skip
                  refine x_iconst (v := 0) ⟨by decide, by decide⟩ (dtk dt_X1_isLattice 28 (48, .iconst 0, 1) rfl) ?_
                  exact ru_b (b := false) (dtk dt_X1_isLattice 29 (49, .ireturn, 1) rfl) rfl (by symm; rw [Bool.eq_false_iff]; intro hq; unfold latt at hq; rw [Bool.and_eq_true, allB_iff] at hq; have hz := allB_iff.mp (hq.2 v2 h1.1 (by omega)) v3 h3.1 (by omega); rw [Bool.and_eq_true, decide_eq_true_eq, decide_eq_true_eq] at hz; first | exact hz.1 (by omega) | exact hz.2 (by omega)) hs2 ⟨hkp2, fun hq => by (exfalso; unfold latt at hq; rw [Bool.and_eq_true, allB_iff] at hq; have hz := allB_iff.mp (hq.2 v2 h1.1 (by omega)) v3 h3.1 (by omega); rw [Bool.and_eq_true, decide_eq_true_eq, decide_eq_true_eq] at hz; first | exact hz.1 (by omega) | exact hz.2 (by omega))⟩
        refine MW.sub [1, 2, 3, 0] rfl ?_
        exact L12 _ _ _ (by omega) hs1 hkp1 rfl (fun a b a0 a1 b0 b1 hor => hw1 a b a0 (by omega) b0 b1) rfl
  refine MW.sub [1, 2, 0] rfl ?_
  exact L2 _ _ _ (by omega) sx.rf kp.rf rfl (fun a b a0 a1 => by omega) rfl
set_option maxRecDepth 100000 in
set_option maxHeartbeats 4000000 in
theorem c_X1_isEvenAt {G : GG} {n : Nat} {K : KK} {M : MM} {a b c m : Int} {d : Int → Int} (hw : WF K M) (hb : BD M m d) (hL : latt m d = true) (hm : m ≤ 10) (ha : 0 ≤ a ∧ a < m) (hb2 : 0 ≤ b ∧ b < m) (hc : 0 ≤ c ∧ c < m) : MC G mi_X1_isEvenAt 1 0 0 [(1, 14), (0, a), (0, b), (0, c)] n K M (PQ (some (0, B (decide (une3 m d a b c = -1)))) n K (M)) := by
  refine MC.intro (lc := [(0, (1, 14)), (1, (0, a)), (2, (0, b)), (3, (0, c))]) (by decide) rfl (by simp [Nat.ble]) (Nat.le_of_ble_eq_true rfl) rfl (fun hMR => ?_)
  have b1 := latt_bd hL (a := b) (b := c) hb2 hc (Or.inl rfl)
  have b2 := latt_bd hL (a := a) (b := b) ha hb2 (Or.inr rfl)
  have b3 := latt_bd hL (a := a) (b := c) ha hc (Or.inr rfl)
  refine x_aload_n (dtk dt_X1_isEvenAt 0 (0, .aload_n 0, 1) rfl) rfl ?_
  refine fg_X1_15 rfl (dtk dt_X1_isEvenAt 1 (1, .getfield 15, 3) rfl) (wk_14 hw) (wm_14_1 hw) ?_
  refine x_iload_n (dtk dt_X1_isEvenAt 2 (4, .iload_n 1, 1) rfl) rfl ?_
  refine x_bipush (v := 10) ⟨by decide, by decide⟩ (dtk dt_X1_isEvenAt 3 (5, .bipush 10, 2) rfl) ?_
  refine y_imul (dtk dt_X1_isEvenAt 4 (7, .imul, 1) rfl) ⟨by omega, by omega⟩ ?_
  refine x_aload_n (dtk dt_X1_isEvenAt 5 (8, .aload_n 0, 1) rfl) rfl ?_
  refine fg_X1_9 rfl (dtk dt_X1_isEvenAt 6 (9, .getfield 9, 3) rfl) (wk_14 hw) (wm_14_0 hw) ?_
  refine x_iload_n (dtk dt_X1_isEvenAt 7 (12, .iload_n 2, 1) rfl) rfl ?_
  refine x_bipush (v := 10) ⟨by decide, by decide⟩ (dtk dt_X1_isEvenAt 8 (13, .bipush 10, 2) rfl) ?_
  refine y_imul (dtk dt_X1_isEvenAt 9 (15, .imul, 1) rfl) ⟨by omega, by omega⟩ ?_
  refine x_iload_n (dtk dt_X1_isEvenAt 10 (16, .iload_n 3, 1) rfl) rfl ?_
  refine y_iadd (dtk dt_X1_isEvenAt 11 (17, .iadd, 1) rfl) ⟨by omega, by omega⟩ ?_
  refine x_iald (dtk dt_X1_isEvenAt 12 (18, .iaload, 1) rfl) (wk_15 hw) ⟨by omega, by omega⟩ ?_
  rw [(hb b c hb2.1 hb2.2 hc.1 hc.2).1]
  refine y_iadd (dtk dt_X1_isEvenAt 13 (19, .iadd, 1) rfl) ⟨by omega, by omega⟩ ?_
  refine x_iald (dtk dt_X1_isEvenAt 14 (20, .iaload, 1) rfl) (wk_16 hw) ⟨by omega, by omega⟩ ?_
  rw [(hb a _ ha.1 ha.2 b1.1 b1.2).2]
  refine x_istore (dtk dt_X1_isEvenAt 15 (21, .istore 4, 2) rfl) (by decide) ?_
  refine x_aload_n (dtk dt_X1_isEvenAt 16 (23, .aload_n 0, 1) rfl) rfl ?_
  refine fg_X1_15 rfl (dtk dt_X1_isEvenAt 17 (24, .getfield 15, 3) rfl) (wk_14 hw) (wm_14_1 hw) ?_
  refine x_iload_n (dtk dt_X1_isEvenAt 18 (27, .iload_n 1, 1) rfl) rfl ?_
  refine x_bipush (v := 10) ⟨by decide, by decide⟩ (dtk dt_X1_isEvenAt 19 (28, .bipush 10, 2) rfl) ?_
  refine y_imul (dtk dt_X1_isEvenAt 20 (30, .imul, 1) rfl) ⟨by omega, by omega⟩ ?_
  refine x_iload_n (dtk dt_X1_isEvenAt 21 (31, .iload_n 2, 1) rfl) rfl ?_
  refine y_iadd (dtk dt_X1_isEvenAt 22 (32, .iadd, 1) rfl) ⟨by omega, by omega⟩ ?_
  refine x_iald (dtk dt_X1_isEvenAt 23 (33, .iaload, 1) rfl) (wk_16 hw) ⟨by omega, by omega⟩ ?_
  rw [(hb a b ha.1 ha.2 hb2.1 hb2.2).2]
  refine x_istore (dtk dt_X1_isEvenAt 24 (34, .istore 5, 2) rfl) (by decide) ?_
  refine x_aload_n (dtk dt_X1_isEvenAt 25 (36, .aload_n 0, 1) rfl) rfl ?_
  refine fg_X1_15 rfl (dtk dt_X1_isEvenAt 26 (37, .getfield 15, 3) rfl) (wk_14 hw) (wm_14_1 hw) ?_
  refine x_iload_n (dtk dt_X1_isEvenAt 27 (40, .iload_n 1, 1) rfl) rfl ?_
  refine x_bipush (v := 10) ⟨by decide, by decide⟩ (dtk dt_X1_isEvenAt 28 (41, .bipush 10, 2) rfl) ?_
  refine y_imul (dtk dt_X1_isEvenAt 29 (43, .imul, 1) rfl) ⟨by omega, by omega⟩ ?_
  refine x_iload_n (dtk dt_X1_isEvenAt 30 (44, .iload_n 3, 1) rfl) rfl ?_
  refine y_iadd (dtk dt_X1_isEvenAt 31 (45, .iadd, 1) rfl) ⟨by omega, by omega⟩ ?_
  refine x_iald (dtk dt_X1_isEvenAt 32 (46, .iaload, 1) rfl) (wk_16 hw) ⟨by omega, by omega⟩ ?_
  rw [(hb a c ha.1 ha.2 hc.1 hc.2).2]
  refine x_istore (dtk dt_X1_isEvenAt 33 (47, .istore 6, 2) rfl) (by decide) ?_
  refine x_iload (dtk dt_X1_isEvenAt 34 (49, .iload 4, 2) rfl) rfl ?_
  refine x_aload_n (dtk dt_X1_isEvenAt 35 (51, .aload_n 0, 1) rfl) rfl ?_
  refine fg_X1_9 rfl (dtk dt_X1_isEvenAt 36 (52, .getfield 9, 3) rfl) (wk_14 hw) (wm_14_0 hw) ?_
  refine x_iload (dtk dt_X1_isEvenAt 37 (55, .iload 5, 2) rfl) rfl ?_
  refine x_bipush (v := 10) ⟨by decide, by decide⟩ (dtk dt_X1_isEvenAt 38 (57, .bipush 10, 2) rfl) ?_
  refine y_imul (dtk dt_X1_isEvenAt 39 (59, .imul, 1) rfl) ⟨by omega, by omega⟩ ?_
  refine x_iload (dtk dt_X1_isEvenAt 40 (60, .iload 6, 2) rfl) rfl ?_
  refine y_iadd (dtk dt_X1_isEvenAt 41 (62, .iadd, 1) rfl) ⟨by omega, by omega⟩ ?_
  refine x_iald (dtk dt_X1_isEvenAt 42 (63, .iaload, 1) rfl) (wk_15 hw) ⟨by omega, by omega⟩ ?_
  rw [(hb _ _ b2.1 b2.2 b3.1 b3.2).1]
  refine x_icmp_ne (tgt := 71) (dtk dt_X1_isEvenAt 43 (64, .if_icmp .ne 7, 3) rfl) (by decide) (fun c64 => ?_) (fun c64 => ?_)
  · skip
    refine x_iconst (v := 0) ⟨by decide, by decide⟩ (dtk dt_X1_isEvenAt 46 (71, .iconst 0, 1) rfl) ?_
    exact r_b (b := false) (dtk dt_X1_isEvenAt 47 (72, .ireturn, 1) rfl) rfl (by unfold une3; first | (rw [if_pos (by omega)]; rfl) | (rw [if_neg (by omega)]; symm; rw [decide_eq_false_iff_not]; omega)) rfl
  · skip
    refine x_iconst (v := 1) ⟨by decide, by decide⟩ (dtk dt_X1_isEvenAt 44 (67, .iconst 1, 1) rfl) ?_
    refine x_goto (tgt := 72) (dtk dt_X1_isEvenAt 45 (68, .goto 4, 3) rfl) (by decide) ?_
    exact r_b (b := true) (dtk dt_X1_isEvenAt 47 (72, .ireturn, 1) rfl) rfl (by unfold une3; first | (rw [if_pos (by omega)]; rfl) | (rw [if_neg (by omega)]; symm; rw [decide_eq_false_iff_not]; omega)) rfl
set_option maxRecDepth 100000 in
set_option maxHeartbeats 4000000 in
theorem c_X1_firstUneven {G : GG} {n : Nat} {K : KK} {M : MM} {p nm m : Int} {ci : Nat} {d : Int → Int} (hO : OB K M p ci nm m d) (hb : BD M m d) (hL : latt m d = true) : MC G mi_X1_firstUneven 2 0 0 [(1, 14), (1, p)] n K M (PQ (some (0, une m d)) n K (M)) := by
  refine MC.intro (lc := [(0, (1, 14)), (1, (1, p))]) (by decide) rfl (by simp [Nat.ble]) (Nat.le_of_ble_eq_true rfl) rfl (fun hMR => ?_)
  have hsz := hO.sz
  refine x_iconst (v := 0) ⟨by decide, by decide⟩ (dtk dt_X1_firstUneven 0 (0, .iconst 0, 1) rfl) ?_
  refine x_istore_n (dtk dt_X1_firstUneven 1 (1, .istore_n 2, 1) rfl) (by decide) ?_
  have L2 : ∀ (fu : Nat) (v2 : Int), (0 ≤ v2 ∧ v2 ≤ m) → (rs m (fun a => rs m (fun b => rs m (fun c => une3 m d a b c) 0) 0) v2 = une m d) → (m - v2).toNat = fu → MW G mi_X1_firstUneven (rmd 2 0 0) (MZ G (PQ (some (0, une m d)) n K (M)) 0 0) (0, 0) 2 [(0, (1, 14)), (1, (1, p)), (2, (0, v2))] [] n K (M) := by
    intro fu
    induction fu using Nat.strongRecOn with
    | ind fu ih2 =>
      intro v2 h1 h2 hk2
      refine x_iload_n (dtk dt_X1_firstUneven 2 (2, .iload_n 2, 1) rfl) rfl ?_
      refine x_aload_n (dtk dt_X1_firstUneven 3 (3, .aload_n 1, 1) rfl) rfl ?_
      refine fg_X1_21 rfl (dtk dt_X1_firstUneven 4 (4, .getfield 21, 3) rfl) hO.k hO.c hO.n ?_
      refine x_icmp_ge (tgt := 74) (dtk dt_X1_firstUneven 5 (7, .if_icmp .ge 67, 3) rfl) (by decide) (fun c7 => ?_) (fun c7 => ?_)
      · skip
        refine x_iconst (v := -1) ⟨by decide, by decide⟩ (dtk dt_X1_firstUneven 40 (74, .iconst (-1), 1) rfl) ?_
        exact r_i (dtk dt_X1_firstUneven 41 (75, .ireturn, 1) rfl) rfl (by rw [rs_e (by omega)] at h2; exact h2) rfl
      · skip
        refine x_iconst (v := 0) ⟨by decide, by decide⟩ (dtk dt_X1_firstUneven 6 (10, .iconst 0, 1) rfl) ?_
        refine x_istore_n (dtk dt_X1_firstUneven 7 (11, .istore_n 3, 1) rfl) (by decide) ?_
        have L12 : ∀ (fu : Nat) (v3 : Int), (0 ≤ v3 ∧ v3 ≤ m) → (oe (rs m (fun b => rs m (fun c => une3 m d v2 b c) 0) v3) (rs m (fun a => rs m (fun b => rs m (fun c => une3 m d a b c) 0) 0) (v2 + 1)) = une m d) → (m - v3).toNat = fu → MW G mi_X1_firstUneven (rmd 2 0 0) (MZ G (PQ (some (0, une m d)) n K (M)) 0 0) (0, 0) 12 [(0, (1, 14)), (1, (1, p)), (2, (0, v2)), (3, (0, v3))] [] n K (M) := by
          intro fu
          induction fu using Nat.strongRecOn with
          | ind fu ih12 =>
            intro v3 h3 h4 hk12
            refine x_iload_n (dtk dt_X1_firstUneven 8 (12, .iload_n 3, 1) rfl) rfl ?_
            refine x_aload_n (dtk dt_X1_firstUneven 9 (13, .aload_n 1, 1) rfl) rfl ?_
            refine fg_X1_21 rfl (dtk dt_X1_firstUneven 10 (14, .getfield 21, 3) rfl) hO.k hO.c hO.n ?_
            refine x_icmp_ge (tgt := 68) (dtk dt_X1_firstUneven 11 (17, .if_icmp .ge 51, 3) rfl) (by decide) (fun c17 => ?_) (fun c17 => ?_)
            · skip
              refine y_iinc (dtk dt_X1_firstUneven 38 (68, .iinc 2 1, 3) rfl) rfl (by decide) ⟨by omega, by omega⟩ ?_
              refine x_goto (tgt := 2) (dtk dt_X1_firstUneven 39 (71, .goto (-69), 3) rfl) (by decide) ?_
              refine MW.sub [1, 2, 0] rfl ?_
              exact ih2 _ (by omega) _ (by omega) (by rw [rs_e (by omega), oe_m] at h4; exact h4) rfl
            · skip
              refine x_iconst (v := 0) ⟨by decide, by decide⟩ (dtk dt_X1_firstUneven 12 (20, .iconst 0, 1) rfl) ?_
              refine x_istore (dtk dt_X1_firstUneven 13 (21, .istore 4, 2) rfl) (by decide) ?_
              have L23 : ∀ (fu : Nat) (v4 : Int), (0 ≤ v4 ∧ v4 ≤ m) → (oe (rs m (fun c => une3 m d v2 v3 c) v4) (oe (rs m (fun b => rs m (fun c => une3 m d v2 b c) 0) (v3 + 1)) (rs m (fun a => rs m (fun b => rs m (fun c => une3 m d a b c) 0) 0) (v2 + 1))) = une m d) → (m - v4).toNat = fu → MW G mi_X1_firstUneven (rmd 2 0 0) (MZ G (PQ (some (0, une m d)) n K (M)) 0 0) (0, 0) 23 [(0, (1, 14)), (1, (1, p)), (2, (0, v2)), (3, (0, v3)), (4, (0, v4))] [] n K (M) := by
                intro fu
                induction fu using Nat.strongRecOn with
                | ind fu ih23 =>
                  intro v4 h5 h6 hk23
                  refine x_iload (dtk dt_X1_firstUneven 14 (23, .iload 4, 2) rfl) rfl ?_
                  refine x_aload_n (dtk dt_X1_firstUneven 15 (25, .aload_n 1, 1) rfl) rfl ?_
                  refine fg_X1_21 rfl (dtk dt_X1_firstUneven 16 (26, .getfield 21, 3) rfl) hO.k hO.c hO.n ?_
                  refine x_icmp_ge (tgt := 62) (dtk dt_X1_firstUneven 17 (29, .if_icmp .ge 33, 3) rfl) (by decide) (fun c29 => ?_) (fun c29 => ?_)
                  · skip
                    refine y_iinc (dtk dt_X1_firstUneven 36 (62, .iinc 3 1, 3) rfl) rfl (by decide) ⟨by omega, by omega⟩ ?_
                    refine x_goto (tgt := 12) (dtk dt_X1_firstUneven 37 (65, .goto (-53), 3) rfl) (by decide) ?_
                    refine MW.sub [1, 2, 3, 0] rfl ?_
                    exact ih12 _ (by omega) _ (by omega) (by rw [rs_e (by omega), oe_m] at h6; exact h6) rfl
                  · skip
                    refine x_aload_n (dtk dt_X1_firstUneven 18 (32, .aload_n 0, 1) rfl) rfl ?_
                    refine x_iload_n (dtk dt_X1_firstUneven 19 (33, .iload_n 2, 1) rfl) rfl ?_
                    refine x_iload_n (dtk dt_X1_firstUneven 20 (34, .iload_n 3, 1) rfl) rfl ?_
                    refine x_iload (dtk dt_X1_firstUneven 21 (35, .iload 4, 2) rfl) rfl ?_
                    refine kc_X1_34 rfl (dtk dt_X1_firstUneven 22 (37, .invokevirtual 34, 3) rfl) (c_X1_isEvenAt (G := G) (m := m) (d := d) hO.wf hb hL (by omega) (by omega) (by omega) (by omega)) rfl rfl (wk_14 hO.wf) (fitR (by decide) (by decide)) (Nat.le_of_ble_eq_true rfl) (pqK ?_)
                    refine x_if_neB (tgt := 56) (dtk dt_X1_firstUneven 23 (40, .ifCond .ne 16, 3) rfl) (by decide) (fun c40 => ?_) (fun c40 => ?_)
                    · skip
                      refine y_iinc (dtk dt_X1_firstUneven 34 (56, .iinc 4 1, 3) rfl) rfl (by decide) ⟨by omega, by omega⟩ ?_
                      refine x_goto (tgt := 23) (dtk dt_X1_firstUneven 35 (59, .goto (-36), 3) rfl) (by decide) ?_
                      refine MW.sub [1, 2, 3, 4, 0] rfl ?_
                      exact ih23 _ (by omega) _ (by omega) (by rw [rs_s (by omega), show une3 m d v2 v3 v4 = -1 by simpa using c40, oe_m] at h6; exact h6) rfl
                    · skip
                      refine x_bipush (v := 100) ⟨by decide, by decide⟩ (dtk dt_X1_firstUneven 24 (43, .bipush 100, 2) rfl) ?_
                      refine x_iload_n (dtk dt_X1_firstUneven 25 (45, .iload_n 2, 1) rfl) rfl ?_
                      refine y_imul (dtk dt_X1_firstUneven 26 (46, .imul, 1) rfl) ⟨by omega, by omega⟩ ?_
                      refine x_bipush (v := 10) ⟨by decide, by decide⟩ (dtk dt_X1_firstUneven 27 (47, .bipush 10, 2) rfl) ?_
                      refine x_iload_n (dtk dt_X1_firstUneven 28 (49, .iload_n 3, 1) rfl) rfl ?_
                      refine y_imul (dtk dt_X1_firstUneven 29 (50, .imul, 1) rfl) ⟨by omega, by omega⟩ ?_
                      refine y_iadd (dtk dt_X1_firstUneven 30 (51, .iadd, 1) rfl) ⟨by omega, by omega⟩ ?_
                      refine x_iload (dtk dt_X1_firstUneven 31 (52, .iload 4, 2) rfl) rfl ?_
                      refine y_iadd (dtk dt_X1_firstUneven 32 (54, .iadd, 1) rfl) ⟨by omega, by omega⟩ ?_
                      exact r_i (dtk dt_X1_firstUneven 33 (55, .ireturn, 1) rfl) rfl (by have hz : une3 m d v2 v3 v4 = 100 * v2 + 10 * v3 + v4 := (by have : une3 m d v2 v3 v4 ≠ -1 := (by simpa using c40); unfold une3 at this ⊢; split; (rename_i hh; rw [if_pos hh] at this; exact absurd rfl this); rfl); rw [rs_s (by omega), hz, oe_n (x := 100 * v2 + 10 * v3 + v4) (by omega), oe_n (x := 100 * v2 + 10 * v3 + v4) (by omega)] at h6; exact h6) rfl
              refine MW.sub [1, 2, 3, 4, 0] rfl ?_
              exact L23 _ _ (by omega) (by rw [rs_s (by omega), oe_as] at h4; exact h4) rfl
        refine MW.sub [1, 2, 3, 0] rfl ?_
        exact L12 _ _ (by omega) (by rw [rs_s (by omega)] at h2; exact h2) rfl
  refine MW.sub [1, 2, 0] rfl ?_
  exact L2 _ _ (by omega) rfl rfl
set_option maxRecDepth 100000 in
set_option maxHeartbeats 4000000 in
theorem c_X1_inverseFromLower {G : GG} {n : Nat} {K : KK} {M : MM} {a b : Int} {p nm m : Int} {ci : Nat} {d : Int → Int} (hO : OB K M p ci nm m d) (ha : 0 ≤ a ∧ a < m) (hb : 0 ≤ b ∧ b < m) : MC G mi_X1_inverseFromLower 4 0 0 [(1, 14), (1, p), (0, a), (0, b)] n K M (PQ (some (0, ivV m d a b (M 17))) n K (M)) := by
  refine MC.intro (lc := [(0, (1, 14)), (1, (1, p)), (2, (0, a)), (3, (0, b))]) (by decide) rfl (by simp [Nat.ble]) (Nat.le_of_ble_eq_true rfl) rfl (fun hMR => ?_)
  have hsz := hO.sz
  refine x_iload_n (dtk dt_X1_inverseFromLower 0 (0, .iload_n 2, 1) rfl) rfl ?_
  refine x_iload_n (dtk dt_X1_inverseFromLower 1 (1, .iload_n 3, 1) rfl) rfl ?_
  refine x_icmp_ne (tgt := 7) (dtk dt_X1_inverseFromLower 2 (2, .if_icmp .ne 5, 3) rfl) (by decide) (fun c2 => ?_) (fun c2 => ?_)
  · skip
    refine x_aload_n (dtk dt_X1_inverseFromLower 5 (7, .aload_n 1, 1) rfl) rfl ?_
    refine x_iload_n (dtk dt_X1_inverseFromLower 6 (8, .iload_n 2, 1) rfl) rfl ?_
    refine x_iload_n (dtk dt_X1_inverseFromLower 7 (9, .iload_n 3, 1) rfl) rfl ?_
    refine kc_X1_51 rfl (dtk dt_X1_inverseFromLower 8 (10, .invokevirtual 51, 3) rfl) (c_X4_isBelow (G := G)  hO (by omega) (by omega)) rfl rfl hO.k hO.c (fitR (by decide) (by decide)) (Nat.le_of_ble_eq_true rfl) (pqK ?_)
    refine x_if_neB (tgt := 18) (dtk dt_X1_inverseFromLower 9 (13, .ifCond .ne 5, 3) rfl) (by decide) (fun c13 => ?_) (fun c13 => ?_)
    · skip
      refine x_iconst (v := 0) ⟨by decide, by decide⟩ (dtk dt_X1_inverseFromLower 12 (18, .iconst 0, 1) rfl) ?_
      refine x_istore (dtk dt_X1_inverseFromLower 13 (19, .istore 4, 2) rfl) (by decide) ?_
      refine x_iconst (v := 0) ⟨by decide, by decide⟩ (dtk dt_X1_inverseFromLower 14 (21, .iconst 0, 1) rfl) ?_
      refine x_istore (dtk dt_X1_inverseFromLower 15 (22, .istore 5, 2) rfl) (by decide) ?_
      have L24 : ∀ (fu : Nat) (v4 : Int) (v5 : Int), (0 ≤ v5 ∧ v5 ≤ m) → (v4 = foldZ v5 (fun v e => if ivT d a b (M 17) e then wr (v + M 17 e) else v) 0) → (m - v5).toNat = fu → MW G mi_X1_inverseFromLower (rmd 4 0 0) (MZ G (PQ (some (0, ivV m d a b (M 17))) n K (M)) 0 0) (0, 0) 24 [(0, (1, 14)), (1, (1, p)), (2, (0, a)), (3, (0, b)), (4, (0, v4)), (5, (0, v5))] [] n K (M) := by
        intro fu
        induction fu using Nat.strongRecOn with
        | ind fu ih24 =>
          intro v4 v5 h1 h2 hk24
          refine x_iload (dtk dt_X1_inverseFromLower 16 (24, .iload 5, 2) rfl) rfl ?_
          refine x_aload_n (dtk dt_X1_inverseFromLower 17 (26, .aload_n 1, 1) rfl) rfl ?_
          refine fg_X1_21 rfl (dtk dt_X1_inverseFromLower 18 (27, .getfield 21, 3) rfl) hO.k hO.c hO.n ?_
          refine x_icmp_ge (tgt := 77) (dtk dt_X1_inverseFromLower 19 (30, .if_icmp .ge 47, 3) rfl) (by decide) (fun c30 => ?_) (fun c30 => ?_)
          · skip
            refine x_iload (dtk dt_X1_inverseFromLower 42 (77, .iload 4, 2) rfl) rfl ?_
            refine w_ineg (dtk dt_X1_inverseFromLower 43 (79, .ineg, 1) rfl) ?_
            exact r_i (dtk dt_X1_inverseFromLower 44 (80, .ireturn, 1) rfl) rfl (by unfold ivV; rw [if_neg (by omega), if_pos c13, h2, show v5 = m by omega]) rfl
          · skip
            refine x_aload_n (dtk dt_X1_inverseFromLower 20 (33, .aload_n 1, 1) rfl) rfl ?_
            refine x_iload (dtk dt_X1_inverseFromLower 21 (34, .iload 5, 2) rfl) rfl ?_
            refine x_iload_n (dtk dt_X1_inverseFromLower 22 (36, .iload_n 3, 1) rfl) rfl ?_
            refine kc_X1_51 rfl (dtk dt_X1_inverseFromLower 23 (37, .invokevirtual 51, 3) rfl) (c_X4_isBelow (G := G)  hO (by omega) (by omega)) rfl rfl hO.k hO.c (fitR (by decide) (by decide)) (Nat.le_of_ble_eq_true rfl) (pqK ?_)
            refine x_if_eqB (tgt := 71) (dtk dt_X1_inverseFromLower 24 (40, .ifCond .eq 31, 3) rfl) (by decide) (fun c40 => ?_) (fun c40 => ?_)
            · skip
              refine y_iinc (dtk dt_X1_inverseFromLower 40 (71, .iinc 5 1, 3) rfl) rfl (by decide) ⟨by omega, by omega⟩ ?_
              refine x_goto (tgt := 24) (dtk dt_X1_inverseFromLower 41 (74, .goto (-50), 3) rfl) (by decide) ?_
              refine MW.sub [1, 2, 3, 4, 5, 0] rfl ?_
              exact ih24 _ (by omega) _ _ (by omega) (by rw [foldZ_s h1.1, ← h2]; unfold ivT; first | (rw [if_pos (by simp_all)]; done) | (rw [if_neg (by simp_all)])) rfl
            · skip
              refine x_iload (dtk dt_X1_inverseFromLower 25 (43, .iload 5, 2) rfl) rfl ?_
              refine x_iload_n (dtk dt_X1_inverseFromLower 26 (45, .iload_n 2, 1) rfl) rfl ?_
              refine x_icmp_eq (tgt := 59) (dtk dt_X1_inverseFromLower 27 (46, .if_icmp .eq 13, 3) rfl) (by decide) (fun c46 => ?_) (fun c46 => ?_)
              · skip
                refine x_iload (dtk dt_X1_inverseFromLower 33 (59, .iload 4, 2) rfl) rfl ?_
                refine x_aload_n (dtk dt_X1_inverseFromLower 34 (61, .aload_n 0, 1) rfl) rfl ?_
                refine fg_X1_18 rfl (dtk dt_X1_inverseFromLower 35 (62, .getfield 18, 3) rfl) (wk_14 hO.wf) (wm_14_2 hO.wf) ?_
                refine x_iload (dtk dt_X1_inverseFromLower 36 (65, .iload 5, 2) rfl) rfl ?_
                refine x_iald (dtk dt_X1_inverseFromLower 37 (67, .iaload, 1) rfl) (wk_17 hO.wf) ⟨by omega, by omega⟩ ?_
                refine w_iadd (dtk dt_X1_inverseFromLower 38 (68, .iadd, 1) rfl) ?_
                refine x_istore (dtk dt_X1_inverseFromLower 39 (69, .istore 4, 2) rfl) (by decide) ?_
                refine y_iinc (dtk dt_X1_inverseFromLower 40 (71, .iinc 5 1, 3) rfl) rfl (by decide) ⟨by omega, by omega⟩ ?_
                refine x_goto (tgt := 24) (dtk dt_X1_inverseFromLower 41 (74, .goto (-50), 3) rfl) (by decide) ?_
                refine MW.sub [2, 3, 4, 5, 1, 0] rfl ?_
                exact ih24 _ (by omega) _ _ (by omega) (by rw [foldZ_s h1.1, ← h2]; unfold ivT; first | (rw [if_pos (by simp_all)]; done) | (rw [if_neg (by simp_all)])) rfl
              · skip
                refine x_aload_n (dtk dt_X1_inverseFromLower 28 (49, .aload_n 1, 1) rfl) rfl ?_
                refine x_iload_n (dtk dt_X1_inverseFromLower 29 (50, .iload_n 2, 1) rfl) rfl ?_
                refine x_iload (dtk dt_X1_inverseFromLower 30 (51, .iload 5, 2) rfl) rfl ?_
                refine kc_X1_51 rfl (dtk dt_X1_inverseFromLower 31 (53, .invokevirtual 51, 3) rfl) (c_X4_isBelow (G := G)  hO (by omega) (by omega)) rfl rfl hO.k hO.c (fitR (by decide) (by decide)) (Nat.le_of_ble_eq_true rfl) (pqK ?_)
                refine x_if_eqB (tgt := 71) (dtk dt_X1_inverseFromLower 32 (56, .ifCond .eq 15, 3) rfl) (by decide) (fun c56 => ?_) (fun c56 => ?_)
                · skip
                  refine y_iinc (dtk dt_X1_inverseFromLower 40 (71, .iinc 5 1, 3) rfl) rfl (by decide) ⟨by omega, by omega⟩ ?_
                  refine x_goto (tgt := 24) (dtk dt_X1_inverseFromLower 41 (74, .goto (-50), 3) rfl) (by decide) ?_
                  refine MW.sub [1, 2, 3, 4, 5, 0] rfl ?_
                  exact ih24 _ (by omega) _ _ (by omega) (by rw [foldZ_s h1.1, ← h2]; unfold ivT; first | (rw [if_pos (by simp_all)]; done) | (rw [if_neg (by simp_all)])) rfl
                · skip
                  refine x_iload (dtk dt_X1_inverseFromLower 33 (59, .iload 4, 2) rfl) rfl ?_
                  refine x_aload_n (dtk dt_X1_inverseFromLower 34 (61, .aload_n 0, 1) rfl) rfl ?_
                  refine fg_X1_18 rfl (dtk dt_X1_inverseFromLower 35 (62, .getfield 18, 3) rfl) (wk_14 hO.wf) (wm_14_2 hO.wf) ?_
                  refine x_iload (dtk dt_X1_inverseFromLower 36 (65, .iload 5, 2) rfl) rfl ?_
                  refine x_iald (dtk dt_X1_inverseFromLower 37 (67, .iaload, 1) rfl) (wk_17 hO.wf) ⟨by omega, by omega⟩ ?_
                  refine w_iadd (dtk dt_X1_inverseFromLower 38 (68, .iadd, 1) rfl) ?_
                  refine x_istore (dtk dt_X1_inverseFromLower 39 (69, .istore 4, 2) rfl) (by decide) ?_
                  refine y_iinc (dtk dt_X1_inverseFromLower 40 (71, .iinc 5 1, 3) rfl) rfl (by decide) ⟨by omega, by omega⟩ ?_
                  refine x_goto (tgt := 24) (dtk dt_X1_inverseFromLower 41 (74, .goto (-50), 3) rfl) (by decide) ?_
                  refine MW.sub [2, 3, 4, 5, 1, 0] rfl ?_
                  exact ih24 _ (by omega) _ _ (by omega) (by rw [foldZ_s h1.1, ← h2]; unfold ivT; first | (rw [if_pos (by simp_all)]; done) | (rw [if_neg (by simp_all)])) rfl
      refine MW.sub [2, 3, 4, 5, 1, 0] rfl ?_
      exact L24 _ _ _ (by omega) rfl rfl
    · skip
      refine x_iconst (v := 0) ⟨by decide, by decide⟩ (dtk dt_X1_inverseFromLower 10 (16, .iconst 0, 1) rfl) ?_
      exact r_i (dtk dt_X1_inverseFromLower 11 (17, .ireturn, 1) rfl) rfl (by unfold ivV; rw [if_neg (by omega), if_neg (by rw [c13]; decide)]) rfl
  · skip
    refine x_iconst (v := 1) ⟨by decide, by decide⟩ (dtk dt_X1_inverseFromLower 3 (5, .iconst 1, 1) rfl) ?_
    exact r_i (dtk dt_X1_inverseFromLower 4 (6, .ireturn, 1) rfl) rfl (by unfold ivV; rw [if_pos (by omega)]) rfl
set_option maxRecDepth 100000 in
set_option maxHeartbeats 4000000 in
theorem c_X1_inverse {G : GG} {n : Nat} {K : KK} {M : MM} {a b : Int} {p nm m : Int} {ci : Nat} {d : Int → Int} (hO : OB K M p ci nm m d) (ha : 0 ≤ a ∧ a < m) (hb : 0 ≤ b ∧ b < m) : MC G mi_X1_inverse 5 0 0 [(1, 14), (1, p), (0, a), (0, b)] n K M (UQ sx (some (0, ivS m d a (M 17) m b)) n K M (kp M)) := by
  refine MC.intro (lc := [(0, (1, 14)), (1, (1, p)), (2, (0, a)), (3, (0, b))]) (by decide) rfl (by simp [Nat.ble]) (Nat.le_of_ble_eq_true rfl) rfl (fun hMR => ?_)
  have hsz := hO.sz
  refine x_iconst (v := 0) ⟨by decide, by decide⟩ (dtk dt_X1_inverse 0 (0, .iconst 0, 1) rfl) ?_
  refine x_istore (dtk dt_X1_inverse 1 (1, .istore 4, 2) rfl) (by decide) ?_
  have L3 : ∀ (fu : Nat) (v4 : Int) (M1 : MM), (0 ≤ v4 ∧ v4 ≤ m) → (sx M M1) → (kp M M1) → (M1 17 = ivS m d a (M 17) v4) → (m - v4).toNat = fu → MW G mi_X1_inverse (rmd 5 0 0) (MZ G (UQ sx (some (0, ivS m d a (M 17) m b)) n K M (kp M)) 0 0) (0, 0) 3 [(0, (1, 14)), (1, (1, p)), (2, (0, a)), (3, (0, b)), (4, (0, v4))] [] n K (M1) := by
    intro fu
    induction fu using Nat.strongRecOn with
    | ind fu ih3 =>
      intro v4 M1 h1 hs1 hkp1 h2 hk3
      refine x_iload (dtk dt_X1_inverse 2 (3, .iload 4, 2) rfl) rfl ?_
      refine x_aload_n (dtk dt_X1_inverse 3 (5, .aload_n 1, 1) rfl) rfl ?_
      refine fg_X1_21 rfl (dtk dt_X1_inverse 4 (6, .getfield 21, 3) rfl) hO.k hO.c (hO.off_sx hs1).n ?_
      refine x_icmp_ge (tgt := 66) (dtk dt_X1_inverse 5 (9, .if_icmp .ge 57, 3) rfl) (by decide) (fun c9 => ?_) (fun c9 => ?_)
      · skip
        refine x_aload_n (dtk dt_X1_inverse 32 (66, .aload_n 0, 1) rfl) rfl ?_
        refine fg_X1_18 rfl (dtk dt_X1_inverse 33 (67, .getfield 18, 3) rfl) (wk_14 hO.wf) (wm_14_2 (hO.off_sx hs1).wf) ?_
        refine x_iload_n (dtk dt_X1_inverse 34 (70, .iload_n 3, 1) rfl) rfl ?_
        refine x_iald (dtk dt_X1_inverse 35 (71, .iaload, 1) rfl) (wk_17 hO.wf) ⟨by omega, by omega⟩ ?_
        exact ru_i (dtk dt_X1_inverse 36 (72, .ireturn, 1) rfl) rfl (by rw [h2, show v4 = m by omega]) hs1 hkp1
      · skip
        refine x_iconst (v := 0) ⟨by decide, by decide⟩ (dtk dt_X1_inverse 6 (12, .iconst 0, 1) rfl) ?_
        refine x_istore (dtk dt_X1_inverse 7 (13, .istore 5, 2) rfl) (by decide) ?_
        have L15 : ∀ (fu : Nat) (v5 : Int) (M2 : MM), (0 ≤ v5 ∧ v5 ≤ m) → (sx M M2) → (kp M M2) → (M2 17 = ivK m d a v4 (ivS m d a (M 17) v4) v5) → (m - v5).toNat = fu → MW G mi_X1_inverse (rmd 5 0 0) (MZ G (UQ sx (some (0, ivS m d a (M 17) m b)) n K M (kp M)) 0 0) (0, 0) 15 [(0, (1, 14)), (1, (1, p)), (2, (0, a)), (3, (0, b)), (4, (0, v4)), (5, (0, v5))] [] n K (M2) := by
          intro fu
          induction fu using Nat.strongRecOn with
          | ind fu ih15 =>
            intro v5 M2 h3 hs2 hkp2 h4 hk15
            refine x_iload (dtk dt_X1_inverse 8 (15, .iload 5, 2) rfl) rfl ?_
            refine x_aload_n (dtk dt_X1_inverse 9 (17, .aload_n 1, 1) rfl) rfl ?_
            refine fg_X1_21 rfl (dtk dt_X1_inverse 10 (18, .getfield 21, 3) rfl) hO.k hO.c (hO.off_sx hs2).n ?_
            refine x_icmp_ge (tgt := 60) (dtk dt_X1_inverse 11 (21, .if_icmp .ge 39, 3) rfl) (by decide) (fun c21 => ?_) (fun c21 => ?_)
            · skip
              refine y_iinc (dtk dt_X1_inverse 30 (60, .iinc 4 1, 3) rfl) rfl (by decide) ⟨by omega, by omega⟩ ?_
              refine x_goto (tgt := 3) (dtk dt_X1_inverse 31 (63, .goto (-60), 3) rfl) (by decide) ?_
              refine MW.sub [1, 2, 3, 4, 0] rfl ?_
              exact ih3 _ (by omega) _ _ (by omega) hs2 hkp2 (by rw [ivS_s h1.1]; rw [show v5 = m by omega] at h4; exact h4) rfl
            · skip
              refine x_aload_n (dtk dt_X1_inverse 12 (24, .aload_n 1, 1) rfl) rfl ?_
              refine fg_X1_38 rfl (dtk dt_X1_inverse 13 (25, .getfield 38, 3) rfl) hO.k hO.c (hO.off_sx hs2).dn ?_
              refine x_iload (dtk dt_X1_inverse 14 (28, .iload 5, 2) rfl) rfl ?_
              refine x_iald (dtk dt_X1_inverse 15 (30, .iaload, 1) rfl) hO.kd ⟨by omega, by omega⟩ ?_
              rw [(hO.off_sx hs2).dat ⟨by omega, by omega⟩]
              refine kc_X1_41 rfl (dtk dt_X1_inverse 16 (31, .invokestatic 41, 3) rfl) (c_J6_bitCount_0f7a4 (G := G)  (hO.ok.2.1 v5 (by omega) (by omega))) rfl rfl (fitR (by decide) (by decide)) (Nat.le_of_ble_eq_true rfl) (pqK ?_)
              refine x_iload (dtk dt_X1_inverse 17 (34, .iload 4, 2) rfl) rfl ?_
              refine x_icmp_ne (tgt := 54) (dtk dt_X1_inverse 18 (36, .if_icmp .ne 18, 3) rfl) (by decide) (fun c36 => ?_) (fun c36 => ?_)
              · skip
                refine y_iinc (dtk dt_X1_inverse 28 (54, .iinc 5 1, 3) rfl) rfl (by decide) ⟨by omega, by omega⟩ ?_
                refine x_goto (tgt := 15) (dtk dt_X1_inverse 29 (57, .goto (-42), 3) rfl) (by decide) ?_
                refine MW.sub [1, 2, 3, 4, 5, 0] rfl ?_
                exact ih15 _ (by omega) _ _ (by omega) hs2 (by first | exact hkp2 | exact kp.st 17 rfl hkp2) (by rw [ivK_s h3.1, ← h4]; unfold ivC; first | (rw [if_neg c36]; done) | (rw [if_pos (by omega), st2_up])) rfl
              · skip
                refine x_aload_n (dtk dt_X1_inverse 19 (39, .aload_n 0, 1) rfl) rfl ?_
                refine fg_X1_18 rfl (dtk dt_X1_inverse 20 (40, .getfield 18, 3) rfl) (wk_14 hO.wf) (wm_14_2 (hO.off_sx hs2).wf) ?_
                refine x_iload (dtk dt_X1_inverse 21 (43, .iload 5, 2) rfl) rfl ?_
                refine x_aload_n (dtk dt_X1_inverse 22 (45, .aload_n 0, 1) rfl) rfl ?_
                refine x_aload_n (dtk dt_X1_inverse 23 (46, .aload_n 1, 1) rfl) rfl ?_
                refine x_iload_n (dtk dt_X1_inverse 24 (47, .iload_n 2, 1) rfl) rfl ?_
                refine x_iload (dtk dt_X1_inverse 25 (48, .iload 5, 2) rfl) rfl ?_
                refine kc_X1_47 rfl (dtk dt_X1_inverse 26 (50, .invokevirtual 47, 3) rfl) (c_X1_inverseFromLower (G := G)  (hO.off_sx hs2) (by omega) (by omega)) rfl rfl (wk_14 hO.wf) (fitR (by decide) (by decide)) (Nat.le_of_ble_eq_true rfl) (pqK ?_)
                refine x_iast (dtk dt_X1_inverse 27 (53, .iastore, 1) rfl) (wk_17 hO.wf) ⟨by omega, by omega⟩ ?_
                refine y_iinc (dtk dt_X1_inverse 28 (54, .iinc 5 1, 3) rfl) rfl (by decide) ⟨by omega, by omega⟩ ?_
                refine x_goto (tgt := 15) (dtk dt_X1_inverse 29 (57, .goto (-42), 3) rfl) (by decide) ?_
                refine MW.sub [1, 2, 3, 4, 5, 0] rfl ?_
                exact ih15 _ (by omega) _ _ (by omega) (sx.st 17 rfl hs2) (by first | exact hkp2 | exact kp.st 17 rfl hkp2) (by rw [ivK_s h3.1, ← h4]; unfold ivC; first | (rw [if_neg c36]; done) | (rw [if_pos (by omega), st2_up])) rfl
        refine MW.sub [1, 2, 3, 4, 5, 0] rfl ?_
        exact L15 _ _ _ (by omega) hs1 hkp1 h2 rfl
  refine MW.sub [1, 2, 3, 4, 0] rfl ?_
  exact L3 _ _ _ (by omega) sx.rf kp.rf rfl rfl
