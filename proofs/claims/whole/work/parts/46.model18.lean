/-! ===== the model: rounds ===== -/
set_option maxRecDepth 100000 in
set_option maxHeartbeats 4000000 in
theorem c_X12_findRound {G : GG} {n : Nat} {K : KK} {M : MM} {o a b : Int} {m : Int} {d : Int → Int} (hA : AT K M o m d) (hP : PO m d) (ha : 0 ≤ a ∧ a < m) (hb : 0 ≤ b ∧ b < m) (hr : rel d b a = true) : MC G mi_X12_findRound 4 0 0 [(1, 36), (0, o), (0, b), (0, a)] n K M (UQ sr none n K M (rdE m d a b)) := by
  refine MC.intro (lc := [(0, (1, 36)), (1, (0, o)), (2, (0, b)), (3, (0, a))]) (by decide) rfl (by simp [Nat.ble]) (Nat.le_of_ble_eq_true rfl) rfl (fun hMR => ?_)
  have ho := hA.2.1
  have hsz := hA.ok.1
  have hD := dst_below hP ha hb hr
  refine x_iconst (v := 0) ⟨by decide, by decide⟩ (dtk dt_X12_findRound 0 (0, .iconst 0, 1) rfl) ?_
  refine x_istore (dtk dt_X12_findRound 1 (1, .istore 4, 2) rfl) (by decide) ?_
  have L3 : ∀ (fu : Nat) (v4 : Int) (M1 : MM), (0 ≤ v4 ∧ v4 ≤ m) → (sr M M1) → (∀ c, 0 ≤ c → c < v4 → M1 46 c = if c = a then 0 else 100) → (m - v4).toNat = fu → MW G mi_X12_findRound (rmd 4 0 0) (MZ G (UQ sr none n K M (rdE m d a b)) 0 0) (0, 0) 3 [(0, (1, 36)), (1, (0, o)), (2, (0, b)), (3, (0, a)), (4, (0, v4))] [] n K (M1) := by
    intro fu
    induction fu using Nat.strongRecOn with
    | ind fu ih3 =>
      intro v4 M1 h1 hs1 hw hk3
      refine x_iload (dtk dt_X12_findRound 2 (3, .iload 4, 2) rfl) rfl ?_
      refine x_aload_n (dtk dt_X12_findRound 3 (5, .aload_n 0, 1) rfl) rfl ?_
      refine fg_X12_13 rfl (dtk dt_X12_findRound 4 (6, .getfield 13, 3) rfl) (wk_36 hA.wf) (wm_36_2 (hA.off_sr hs1).wf) ?_
      refine x_iload_n (dtk dt_X12_findRound 5 (9, .iload_n 1, 1) rfl) rfl ?_
      refine x_iald (dtk dt_X12_findRound 6 (10, .iaload, 1) rfl) (wk_38 hA.wf) ⟨by omega, by omega⟩ ?_
      rw [(hA.off_sr hs1).sz]
      refine x_icmp_ge (tgt := 39) (dtk dt_X12_findRound 7 (11, .if_icmp .ge 28, 3) rfl) (by decide) (fun c11 => ?_) (fun c11 => ?_)
      · skip
        refine x_iconst (v := 0) ⟨by decide, by decide⟩ (dtk dt_X12_findRound 20 (39, .iconst 0, 1) rfl) ?_
        refine x_istore (dtk dt_X12_findRound 21 (40, .istore 4, 2) rfl) (by decide) ?_
        have L42 : ∀ (fu : Nat) (v4 : Int) (M2 : MM), (0 ≤ v4 ∧ v4 ≤ m) → (sr M M2) → (isFar m d a (M2 46)) → (∀ c, 0 ≤ c → c < m → hasFar m d a (M2 46) c v4) → (m - v4).toNat = fu → MW G mi_X12_findRound (rmd 4 0 0) (MZ G (UQ sr none n K M (rdE m d a b)) 0 0) (0, 0) 42 [(0, (1, 36)), (1, (0, o)), (2, (0, b)), (3, (0, a)), (4, (0, v4))] [] n K (M2) := by
          intro fu
          induction fu using Nat.strongRecOn with
          | ind fu ih42 =>
            intro v4 M2 h3 hs2 hI2 hH2 hk42
            refine x_iload (dtk dt_X12_findRound 22 (42, .iload 4, 2) rfl) rfl ?_
            refine x_aload_n (dtk dt_X12_findRound 23 (44, .aload_n 0, 1) rfl) rfl ?_
            refine fg_X12_13 rfl (dtk dt_X12_findRound 24 (45, .getfield 13, 3) rfl) (wk_36 hA.wf) (wm_36_2 (hA.off_sr hs2).wf) ?_
            refine x_iload_n (dtk dt_X12_findRound 25 (48, .iload_n 1, 1) rfl) rfl ?_
            refine x_iald (dtk dt_X12_findRound 26 (49, .iaload, 1) rfl) (wk_38 hA.wf) ⟨by omega, by omega⟩ ?_
            rw [(hA.off_sr hs2).sz]
            refine x_icmp_ge (tgt := 156) (dtk dt_X12_findRound 27 (50, .if_icmp .ge 106, 3) rfl) (by decide) (fun c50 => ?_) (fun c50 => ?_)
            · skip
              refine x_aload_n (dtk dt_X12_findRound 82 (156, .aload_n 0, 1) rfl) rfl ?_
              refine x_iconst (v := 1) ⟨by decide, by decide⟩ (dtk dt_X12_findRound 83 (157, .iconst 1, 1) rfl) ?_
              refine fp_X12_107 rfl (dtk dt_X12_findRound 84 (158, .putfield 107, 3) rfl) (wk_36 hA.wf) ?_
              refine x_aload_n (dtk dt_X12_findRound 85 (161, .aload_n 0, 1) rfl) rfl ?_
              refine fg_X12_26 rfl (dtk dt_X12_findRound 86 (162, .getfield 26, 3) rfl) (wk_36 hA.wf) (wm_36_8 (hA.off_sr (sr.fd 36 7 rfl hs2)).wf) ?_
              refine x_iconst (v := 0) ⟨by decide, by decide⟩ (dtk dt_X12_findRound 87 (165, .iconst 0, 1) rfl) ?_
              refine x_iload_n (dtk dt_X12_findRound 88 (166, .iload_n 2, 1) rfl) rfl ?_
              refine x_iast (dtk dt_X12_findRound 89 (167, .iastore, 1) rfl) (wk_41 hA.wf) ⟨by omega, by omega⟩ ?_
              refine x_iload_n (dtk dt_X12_findRound 90 (168, .iload_n 2, 1) rfl) rfl ?_
              refine x_istore (dtk dt_X12_findRound 91 (169, .istore 4, 2) rfl) (by decide) ?_
              have L171 : ∀ (fu : Nat) (v4 : Int) (M5 : MM), (1 ≤ M5 36 7 ∧ M5 36 7 ≤ dst m d b a + 1) → (sr M M5) → (v4 = pth m d a b (M5 36 7 - 1)) → (∀ i, 0 ≤ i → i < M5 36 7 → M5 41 i = pth m d a b i) → (∀ c, 0 ≤ c → c < m → M5 46 c = farF m d a c) → (dst m d b a + 1 - M5 36 7).toNat = fu → MW G mi_X12_findRound (rmd 4 0 0) (MZ G (UQ sr none n K M (rdE m d a b)) 0 0) (0, 0) 171 [(0, (1, 36)), (1, (0, o)), (2, (0, b)), (3, (0, a)), (4, (0, v4))] [] n K (M5) := by
                intro fu
                induction fu using Nat.strongRecOn with
                | ind fu ih171 =>
                  intro v4 M5 g1 hs5 g2 g3 g4 hk171
                  have hpo := pth_ok hP ha hb (M5 36 7 - 1).toNat (by omega)
                  rw [show (((M5 36 7 - 1).toNat : Nat) : Int) = M5 36 7 - 1 by omega, ← g2] at hpo
                  refine x_iload (dtk dt_X12_findRound 92 (171, .iload 4, 2) rfl) rfl ?_
                  refine x_iload_n (dtk dt_X12_findRound 93 (173, .iload_n 3, 1) rfl) rfl ?_
                  refine x_icmp_eq (tgt := 245) (dtk dt_X12_findRound 94 (174, .if_icmp .eq 71, 3) rfl) (by decide) (fun c174 => ?_) (fun c174 => ?_)
                  · skip
                    exact ru_v (dtk dt_X12_findRound 131 (245, .return_, 1) rfl) rfl hs5 (by have hz : dst m d v4 a = 0 := (by rw [c174]; exact dst_0 (by omega)); exact ⟨by omega, fun i h0 h1 => g3 i h0 (by omega)⟩)
                  · skip
                    have hd4 : 1 ≤ dst m d v4 a ∧ dst m d v4 a < m := by (by_cases hq : dst m d v4 a = 0; exact absurd (dst_z (by omega) hq) c174; omega)
                    have hst := stp_ok hP ha hpo.1 hd4.1
                    refine x_iconst (v := 0) ⟨by decide, by decide⟩ (dtk dt_X12_findRound 95 (177, .iconst 0, 1) rfl) ?_
                    refine x_istore (dtk dt_X12_findRound 96 (178, .istore 5, 2) rfl) (by decide) ?_
                    have L180 : ∀ (fu : Nat) (v5 : Int), (0 ≤ v5 ∧ v5 ≤ m) → (rs m (fun c => if nxt m d v4 c && decide (dst m d c a = dst m d v4 a - 1) then c else -1) v5 = stpF m d a v4) → (m - v5).toNat = fu → MW G mi_X12_findRound (rmd 4 0 0) (MZ G (UQ sr none n K M (rdE m d a b)) 0 0) (0, 0) 180 [(0, (1, 36)), (1, (0, o)), (2, (0, b)), (3, (0, a)), (4, (0, v4)), (5, (0, v5))] [] n K (M5) := by
                      intro fu
                      induction fu using Nat.strongRecOn with
                      | ind fu ih180 =>
                        intro v5 k1 k2 hk180
                        have hv5 : v5 < m := by (by_cases hq : v5 < m; exact hq; (exfalso; rw [rs_e (by omega)] at k2; omega))
                        refine x_aload_n (dtk dt_X12_findRound 97 (180, .aload_n 0, 1) rfl) rfl ?_
                        refine x_iload_n (dtk dt_X12_findRound 98 (181, .iload_n 1, 1) rfl) rfl ?_
                        refine x_iload (dtk dt_X12_findRound 99 (182, .iload 4, 2) rfl) rfl ?_
                        refine x_iload (dtk dt_X12_findRound 100 (184, .iload 5, 2) rfl) rfl ?_
                        refine kc_X12_104 rfl (dtk dt_X12_findRound 101 (186, .invokevirtual 104, 3) rfl) (c_X12_isNext (G := G)  (hA.off_sr hs5) (by omega) (by omega)) rfl rfl (wk_36 hA.wf) (fitR (by decide) (by decide)) (Nat.le_of_ble_eq_true rfl) (pqK ?_)
                        refine x_if_eqB (tgt := 211) (dtk dt_X12_findRound 102 (189, .ifCond .eq 22, 3) rfl) (by decide) (fun c189 => ?_) (fun c189 => ?_)
                        · skip
                          refine y_iinc (dtk dt_X12_findRound 114 (211, .iinc 5 1, 3) rfl) rfl (by decide) ⟨by omega, by omega⟩ ?_
                          refine x_goto (tgt := 180) (dtk dt_X12_findRound 115 (214, .goto (-34), 3) rfl) (by decide) ?_
                          refine MW.sub [1, 2, 3, 4, 5, 0] rfl ?_
                          exact ih180 _ (by omega) _ (by omega) (by rw [rs_s hv5, if_neg (by first | (rw [c189]; simp; done) | (rw [c189, decide_eq_false (fun hz => c208 ((farF_s hsz.2 hd4).mpr hz))]; simp)), oe_m] at k2; exact k2) rfl
                        · skip
                          refine x_aload_n (dtk dt_X12_findRound 103 (192, .aload_n 0, 1) rfl) rfl ?_
                          refine fg_X12_41 rfl (dtk dt_X12_findRound 104 (193, .getfield 41, 3) rfl) (wk_36 hA.wf) (wm_36_15 (hA.off_sr hs5).wf) ?_
                          refine x_iload (dtk dt_X12_findRound 105 (196, .iload 5, 2) rfl) rfl ?_
                          refine x_iald (dtk dt_X12_findRound 106 (198, .iaload, 1) rfl) (wk_46 hA.wf) ⟨by omega, by omega⟩ ?_
                          rw [g4 v5 k1.1 hv5]
                          refine x_aload_n (dtk dt_X12_findRound 107 (199, .aload_n 0, 1) rfl) rfl ?_
                          refine fg_X12_41 rfl (dtk dt_X12_findRound 108 (200, .getfield 41, 3) rfl) (wk_36 hA.wf) (wm_36_15 (hA.off_sr hs5).wf) ?_
                          refine x_iload (dtk dt_X12_findRound 109 (203, .iload 4, 2) rfl) rfl ?_
                          refine x_iald (dtk dt_X12_findRound 110 (205, .iaload, 1) rfl) (wk_46 hA.wf) ⟨by omega, by omega⟩ ?_
                          rw [g4 v4 hpo.1.1 hpo.1.2]
                          have hf4 : farF m d a v4 = dst m d v4 a := if_neg (by omega)
                          refine x_iconst (v := 1) ⟨by decide, by decide⟩ (dtk dt_X12_findRound 111 (206, .iconst 1, 1) rfl) ?_
                          refine y_isub (dtk dt_X12_findRound 112 (207, .isub, 1) rfl) ⟨by omega, by omega⟩ ?_
                          refine x_icmp_eq (tgt := 217) (dtk dt_X12_findRound 113 (208, .if_icmp .eq 9, 3) rfl) (by decide) (fun c208 => ?_) (fun c208 => ?_)
                          · skip
                            have hstp : stpF m d a v4 = v5 := by (rw [rs_s hv5, if_pos (by rw [c189, decide_eq_true ((farF_s hsz.2 hd4).mp c208)]; rfl), oe_n (by omega)] at k2; exact k2.symm)
                            refine x_iload (dtk dt_X12_findRound 116 (217, .iload 5, 2) rfl) rfl ?_
                            refine x_istore (dtk dt_X12_findRound 117 (219, .istore 4, 2) rfl) (by decide) ?_
                            refine x_aload_n (dtk dt_X12_findRound 118 (221, .aload_n 0, 1) rfl) rfl ?_
                            refine fg_X12_26 rfl (dtk dt_X12_findRound 119 (222, .getfield 26, 3) rfl) (wk_36 hA.wf) (wm_36_8 (hA.off_sr hs5).wf) ?_
                            refine x_aload_n (dtk dt_X12_findRound 120 (225, .aload_n 0, 1) rfl) rfl ?_
                            refine fg_X12_107 rfl (dtk dt_X12_findRound 121 (226, .getfield 107, 3) rfl) (wk_36 hA.wf) rfl ?_
                            refine x_iload (dtk dt_X12_findRound 122 (229, .iload 5, 2) rfl) rfl ?_
                            refine x_iast (dtk dt_X12_findRound 123 (231, .iastore, 1) rfl) (wk_41 hA.wf) ⟨by omega, by omega⟩ ?_
                            refine x_aload_n (dtk dt_X12_findRound 124 (232, .aload_n 0, 1) rfl) rfl ?_
                            refine x_dup rfl (dtk dt_X12_findRound 125 (233, .dup, 1) rfl) ?_
                            refine fg_X12_107 rfl (dtk dt_X12_findRound 126 (234, .getfield 107, 3) rfl) (wk_36 hA.wf) (v := M5 36 7) (by rw [st2_ne _ (show (36 : Int) ≠ 41 by decide)]) ?_
                            refine x_iconst (v := 1) ⟨by decide, by decide⟩ (dtk dt_X12_findRound 127 (237, .iconst 1, 1) rfl) ?_
                            refine y_iadd (dtk dt_X12_findRound 128 (238, .iadd, 1) rfl) ⟨by omega, by omega⟩ ?_
                            refine fp_X12_107 rfl (dtk dt_X12_findRound 129 (239, .putfield 107, 3) rfl) (wk_36 hA.wf) ?_
                            refine x_goto (tgt := 171) (dtk dt_X12_findRound 130 (242, .goto (-71), 3) rfl) (by decide) ?_
                            refine MW.sub [1, 2, 3, 4, 0] rfl ?_
                            exact ih171 _ (by rw [st2_self]; omega) _ _ (by rw [st2_self]; omega) (sr.fd 36 7 rfl (sr.st 41 rfl hs5)) (by rw [st2_self, show M5 36 7 + 1 - 1 = (M5 36 7 - 1) + 1 by omega, pth_s (by omega), ← g2]; exact hstp.symm) (fun i h0 h1 => by rw [st2_self] at h1; rw [st2_ne _ (show (41 : Int) ≠ 36 by decide), st2_up]; show (if i = M5 36 7 then _ else _) = _; split; (rename_i hq; rw [hq, show M5 36 7 = (M5 36 7 - 1) + 1 by omega, pth_s (by omega), ← g2]; exact hstp.symm); exact g3 i h0 (by omega)) (fun c h0 h1 => by rw [st2_ne _ (show (46 : Int) ≠ 36 by decide), st2_ne _ (show (46 : Int) ≠ 41 by decide)]; exact g4 c h0 h1) rfl
                          · skip
                            refine y_iinc (dtk dt_X12_findRound 114 (211, .iinc 5 1, 3) rfl) rfl (by decide) ⟨by omega, by omega⟩ ?_
                            refine x_goto (tgt := 180) (dtk dt_X12_findRound 115 (214, .goto (-34), 3) rfl) (by decide) ?_
                            refine MW.sub [1, 2, 3, 4, 5, 0] rfl ?_
                            exact ih180 _ (by omega) _ (by omega) (by rw [rs_s hv5, if_neg (by first | (rw [c189]; simp; done) | (rw [c189, decide_eq_false (fun hz => c208 ((farF_s hsz.2 hd4).mpr hz))]; simp)), oe_m] at k2; exact k2) rfl
                    refine MW.sub [1, 2, 3, 4, 5, 0] rfl ?_
                    exact L180 _ _ (by omega) rfl rfl
              refine MW.sub [1, 2, 3, 4, 0] rfl ?_
              exact L171 _ _ _ (by rw [st2_ne _ (show (36 : Int) ≠ 41 by decide), st2_self]; omega) (sr.st 41 rfl (sr.fd 36 7 rfl hs2)) (by rw [st2_ne _ (show (36 : Int) ≠ 41 by decide), st2_self]; rfl) (fun i h0 h1 => by rw [st2_ne _ (show (36 : Int) ≠ 41 by decide), st2_self] at h1; rw [show i = 0 by omega, st2_self]; rfl) (fun c h0 h1 => by rw [st2_ne _ (show (46 : Int) ≠ 41 by decide), st2_ne _ (show (46 : Int) ≠ 36 by decide)]; exact far_end hP ha hI2 (fun c h0 h1 => by have z := hH2 c h0 h1; rw [show v4 = m by omega] at z; exact z) ⟨h0, h1⟩) rfl
            · skip
              refine x_iconst (v := 0) ⟨by decide, by decide⟩ (dtk dt_X12_findRound 28 (53, .iconst 0, 1) rfl) ?_
              refine x_istore (dtk dt_X12_findRound 29 (54, .istore 5, 2) rfl) (by decide) ?_
              have L56 : ∀ (fu : Nat) (v5 : Int) (M3 : MM), (0 ≤ v5 ∧ v5 ≤ m) → (sr M M3) → (isFar m d a (M3 46)) → (∀ c, 0 ≤ c → c < m → hasFar m d a (M3 46) c v4) → (∀ c, 0 ≤ c → c < v5 → hasFar m d a (M3 46) c (v4 + 1)) → (m - v5).toNat = fu → MW G mi_X12_findRound (rmd 4 0 0) (MZ G (UQ sr none n K M (rdE m d a b)) 0 0) (0, 0) 56 [(0, (1, 36)), (1, (0, o)), (2, (0, b)), (3, (0, a)), (4, (0, v4)), (5, (0, v5))] [] n K (M3) := by
                intro fu
                induction fu using Nat.strongRecOn with
                | ind fu ih56 =>
                  intro v5 M3 h5 hs3 hI3 hH3 hN3 hk56
                  refine x_iload (dtk dt_X12_findRound 30 (56, .iload 5, 2) rfl) rfl ?_
                  refine x_aload_n (dtk dt_X12_findRound 31 (58, .aload_n 0, 1) rfl) rfl ?_
                  refine fg_X12_13 rfl (dtk dt_X12_findRound 32 (59, .getfield 13, 3) rfl) (wk_36 hA.wf) (wm_36_2 (hA.off_sr hs3).wf) ?_
                  refine x_iload_n (dtk dt_X12_findRound 33 (62, .iload_n 1, 1) rfl) rfl ?_
                  refine x_iald (dtk dt_X12_findRound 34 (63, .iaload, 1) rfl) (wk_38 hA.wf) ⟨by omega, by omega⟩ ?_
                  rw [(hA.off_sr hs3).sz]
                  refine x_icmp_ge (tgt := 150) (dtk dt_X12_findRound 35 (64, .if_icmp .ge 86, 3) rfl) (by decide) (fun c64 => ?_) (fun c64 => ?_)
                  · skip
                    refine y_iinc (dtk dt_X12_findRound 80 (150, .iinc 4 1, 3) rfl) rfl (by decide) ⟨by omega, by omega⟩ ?_
                    refine x_goto (tgt := 42) (dtk dt_X12_findRound 81 (153, .goto (-111), 3) rfl) (by decide) ?_
                    refine MW.sub [1, 2, 3, 4, 0] rfl ?_
                    exact ih42 _ (by omega) _ _ (by omega) hs3 hI3 (fun c h0 h1 => hN3 c h0 (by omega)) rfl
                  · skip
                    refine x_iconst (v := 0) ⟨by decide, by decide⟩ (dtk dt_X12_findRound 36 (67, .iconst 0, 1) rfl) ?_
                    refine x_istore (dtk dt_X12_findRound 37 (68, .istore 6, 2) rfl) (by decide) ?_
                    have L70 : ∀ (fu : Nat) (v6 : Int) (M4 : MM), (0 ≤ v6 ∧ v6 ≤ m) → (sr M M4) → (isFar m d a (M4 46)) → (∀ c, 0 ≤ c → c < m → hasFar m d a (M4 46) c v4) → (∀ c, 0 ≤ c → c < v5 → hasFar m d a (M4 46) c (v4 + 1)) → (∀ e, 0 ≤ e → e < v6 → nxt m d v5 e = true → ∀ k : Nat, (k : Int) ≤ v4 → wkN m d k e a = true → M4 46 v5 ≤ k + 1) → (m - v6).toNat = fu → MW G mi_X12_findRound (rmd 4 0 0) (MZ G (UQ sr none n K M (rdE m d a b)) 0 0) (0, 0) 70 [(0, (1, 36)), (1, (0, o)), (2, (0, b)), (3, (0, a)), (4, (0, v4)), (5, (0, v5)), (6, (0, v6))] [] n K (M4) := by
                      intro fu
                      induction fu using Nat.strongRecOn with
                      | ind fu ih70 =>
                        intro v6 M4 h7 hs4 hI4 hH4 hN4 hQ hk70
                        refine x_iload (dtk dt_X12_findRound 38 (70, .iload 6, 2) rfl) rfl ?_
                        refine x_aload_n (dtk dt_X12_findRound 39 (72, .aload_n 0, 1) rfl) rfl ?_
                        refine fg_X12_13 rfl (dtk dt_X12_findRound 40 (73, .getfield 13, 3) rfl) (wk_36 hA.wf) (wm_36_2 (hA.off_sr hs4).wf) ?_
                        refine x_iload_n (dtk dt_X12_findRound 41 (76, .iload_n 1, 1) rfl) rfl ?_
                        refine x_iald (dtk dt_X12_findRound 42 (77, .iaload, 1) rfl) (wk_38 hA.wf) ⟨by omega, by omega⟩ ?_
                        rw [(hA.off_sr hs4).sz]
                        refine x_icmp_ge (tgt := 144) (dtk dt_X12_findRound 43 (78, .if_icmp .ge 66, 3) rfl) (by decide) (fun c78 => ?_) (fun c78 => ?_)
                        · skip
                          refine y_iinc (dtk dt_X12_findRound 78 (144, .iinc 5 1, 3) rfl) rfl (by decide) ⟨by omega, by omega⟩ ?_
                          refine x_goto (tgt := 56) (dtk dt_X12_findRound 79 (147, .goto (-91), 3) rfl) (by decide) ?_
                          refine MW.sub [1, 2, 3, 4, 5, 0] rfl ?_
                          exact ih56 _ (by omega) _ _ (by omega) hs4 hI4 hH4 (fun c h0 h1 => by by_cases hq : c = v5; (rw [hq]; exact has_s h3.1 (fun k hk hw => hH4 v5 (by omega) (by omega) k (by omega) hw) (fun e e0 e1 => hQ e e0 (by omega))); exact hN4 c h0 (by omega)) rfl
                        · skip
                          have b5 := isFar_b hsz.2 hI4 (c := v5) ⟨by omega, by omega⟩
                          have b6 := isFar_b hsz.2 hI4 (c := v6) ⟨by omega, by omega⟩
                          have J137_26 : ∀ (j : Int), ((nxt m d v5 v6 = true → j ≤ M4 46 v6 + 1) ∧ j ≤ M4 46 v5 ∧ (j = M4 46 v5 ∨ (nxt m d v5 v6 = true ∧ j = M4 46 v6 + 1 ∧ j < M4 46 v5))) → MW G mi_X12_findRound (rmd 4 0 0) (MZ G (UQ sr none n K M (rdE m d a b)) 0 0) (0, 0) 137 [(0, (1, 36)), (1, (0, o)), (2, (0, b)), (3, (0, a)), (4, (0, v4)), (5, (0, v5)), (6, (0, v6))] [(0, j), (0, v5), (1, 46)] n K (M4) := by
                            intro j hj
                            refine x_iast (dtk dt_X12_findRound 75 (137, .iastore, 1) rfl) (wk_46 hA.wf) ⟨by omega, by omega⟩ ?_
                            refine y_iinc (dtk dt_X12_findRound 76 (138, .iinc 6 1, 3) rfl) rfl (by decide) ⟨by omega, by omega⟩ ?_
                            refine x_goto (tgt := 70) (dtk dt_X12_findRound 77 (141, .goto (-71), 3) rfl) (by decide) ?_
                            refine MW.sub [1, 2, 3, 4, 5, 6, 0] rfl ?_
                            exact ih70 _ (by omega) _ _ (by omega) (sr.st 46 rfl hs4) (by rw [st2_up]; exact far_up hP ha hI4 ⟨by omega, by omega⟩ ⟨by omega, by omega⟩ hj.2.2) (fun c h0 h1 => by rw [st2_up]; exact has_up hj.2.1 (hH4 c h0 h1)) (fun c h0 h1 => by rw [st2_up]; exact has_up hj.2.1 (hN4 c h0 h1)) (fun e h0 h1 hn k hk hw => by rw [st2_self]; by_cases hq : e = v6; (focus (rw [hq] at hn hw; have z1 := hH4 v6 (by omega) (by omega) k hk hw; have z2 := hj.1 hn; omega)); (have z1 := hQ e h0 (by omega) hn k hk hw; have z2 := hj.2.1; omega)) rfl
                          refine x_aload_n (dtk dt_X12_findRound 44 (81, .aload_n 0, 1) rfl) rfl ?_
                          refine fg_X12_41 rfl (dtk dt_X12_findRound 45 (82, .getfield 41, 3) rfl) (wk_36 hA.wf) (wm_36_15 (hA.off_sr hs4).wf) ?_
                          refine x_iload (dtk dt_X12_findRound 46 (85, .iload 5, 2) rfl) rfl ?_
                          refine x_aload_n (dtk dt_X12_findRound 47 (87, .aload_n 0, 1) rfl) rfl ?_
                          refine x_iload_n (dtk dt_X12_findRound 48 (88, .iload_n 1, 1) rfl) rfl ?_
                          refine x_iload (dtk dt_X12_findRound 49 (89, .iload 5, 2) rfl) rfl ?_
                          refine x_iload (dtk dt_X12_findRound 50 (91, .iload 6, 2) rfl) rfl ?_
                          refine kc_X12_104 rfl (dtk dt_X12_findRound 51 (93, .invokevirtual 104, 3) rfl) (c_X12_isNext (G := G)  (hA.off_sr hs4) (by omega) (by omega)) rfl rfl (wk_36 hA.wf) (fitR (by decide) (by decide)) (Nat.le_of_ble_eq_true rfl) (pqK ?_)
                          refine x_if_eqB (tgt := 130) (dtk dt_X12_findRound 52 (96, .ifCond .eq 34, 3) rfl) (by decide) (fun c96 => ?_) (fun c96 => ?_)
                          · skip
                            refine x_aload_n (dtk dt_X12_findRound 71 (130, .aload_n 0, 1) rfl) rfl ?_
                            refine fg_X12_41 rfl (dtk dt_X12_findRound 72 (131, .getfield 41, 3) rfl) (wk_36 hA.wf) (wm_36_15 (hA.off_sr hs4).wf) ?_
                            refine x_iload (dtk dt_X12_findRound 73 (134, .iload 5, 2) rfl) rfl ?_
                            refine x_iald (dtk dt_X12_findRound 74 (136, .iaload, 1) rfl) (wk_46 hA.wf) ⟨by omega, by omega⟩ ?_
                            refine MW.sub [0, 1, 2, 3, 4, 5, 6] rfl ?_
                            exact J137_26 _ (by first | exact ⟨fun _ => by omega, by omega, Or.inr ⟨c96, rfl, by omega⟩⟩ | exact ⟨fun hz => by (first | omega | (rw [c96] at hz; cases hz)), by omega, Or.inl rfl⟩)
                          · skip
                            refine x_aload_n (dtk dt_X12_findRound 53 (99, .aload_n 0, 1) rfl) rfl ?_
                            refine fg_X12_41 rfl (dtk dt_X12_findRound 54 (100, .getfield 41, 3) rfl) (wk_36 hA.wf) (wm_36_15 (hA.off_sr hs4).wf) ?_
                            refine x_iload (dtk dt_X12_findRound 55 (103, .iload 6, 2) rfl) rfl ?_
                            refine x_iald (dtk dt_X12_findRound 56 (105, .iaload, 1) rfl) (wk_46 hA.wf) ⟨by omega, by omega⟩ ?_
                            refine x_iconst (v := 1) ⟨by decide, by decide⟩ (dtk dt_X12_findRound 57 (106, .iconst 1, 1) rfl) ?_
                            refine y_iadd (dtk dt_X12_findRound 58 (107, .iadd, 1) rfl) ⟨by omega, by omega⟩ ?_
                            refine x_aload_n (dtk dt_X12_findRound 59 (108, .aload_n 0, 1) rfl) rfl ?_
                            refine fg_X12_41 rfl (dtk dt_X12_findRound 60 (109, .getfield 41, 3) rfl) (wk_36 hA.wf) (wm_36_15 (hA.off_sr hs4).wf) ?_
                            refine x_iload (dtk dt_X12_findRound 61 (112, .iload 5, 2) rfl) rfl ?_
                            refine x_iald (dtk dt_X12_findRound 62 (114, .iaload, 1) rfl) (wk_46 hA.wf) ⟨by omega, by omega⟩ ?_
                            refine x_icmp_ge (tgt := 130) (dtk dt_X12_findRound 63 (115, .if_icmp .ge 15, 3) rfl) (by decide) (fun c115 => ?_) (fun c115 => ?_)
                            · skip
                              refine x_aload_n (dtk dt_X12_findRound 71 (130, .aload_n 0, 1) rfl) rfl ?_
                              refine fg_X12_41 rfl (dtk dt_X12_findRound 72 (131, .getfield 41, 3) rfl) (wk_36 hA.wf) (wm_36_15 (hA.off_sr hs4).wf) ?_
                              refine x_iload (dtk dt_X12_findRound 73 (134, .iload 5, 2) rfl) rfl ?_
                              refine x_iald (dtk dt_X12_findRound 74 (136, .iaload, 1) rfl) (wk_46 hA.wf) ⟨by omega, by omega⟩ ?_
                              refine MW.sub [0, 1, 2, 3, 4, 5, 6] rfl ?_
                              exact J137_26 _ (by first | exact ⟨fun _ => by omega, by omega, Or.inr ⟨c96, rfl, by omega⟩⟩ | exact ⟨fun hz => by (first | omega | (rw [c96] at hz; cases hz)), by omega, Or.inl rfl⟩)
                            · skip
                              refine x_aload_n (dtk dt_X12_findRound 64 (118, .aload_n 0, 1) rfl) rfl ?_
                              refine fg_X12_41 rfl (dtk dt_X12_findRound 65 (119, .getfield 41, 3) rfl) (wk_36 hA.wf) (wm_36_15 (hA.off_sr hs4).wf) ?_
                              refine x_iload (dtk dt_X12_findRound 66 (122, .iload 6, 2) rfl) rfl ?_
                              refine x_iald (dtk dt_X12_findRound 67 (124, .iaload, 1) rfl) (wk_46 hA.wf) ⟨by omega, by omega⟩ ?_
                              refine x_iconst (v := 1) ⟨by decide, by decide⟩ (dtk dt_X12_findRound 68 (125, .iconst 1, 1) rfl) ?_
                              refine y_iadd (dtk dt_X12_findRound 69 (126, .iadd, 1) rfl) ⟨by omega, by omega⟩ ?_
                              refine x_goto (tgt := 137) (dtk dt_X12_findRound 70 (127, .goto 10, 3) rfl) (by decide) ?_
                              refine MW.sub [0, 1, 2, 3, 4, 5, 6] rfl ?_
                              exact J137_26 _ (by first | exact ⟨fun _ => by omega, by omega, Or.inr ⟨c96, rfl, by omega⟩⟩ | exact ⟨fun hz => by (first | omega | (rw [c96] at hz; cases hz)), by omega, Or.inl rfl⟩)
                    refine MW.sub [1, 2, 3, 4, 5, 6, 0] rfl ?_
                    exact L70 _ _ _ (by omega) hs3 hI3 hH3 hN3 (fun e h0 h1 => by omega) rfl
              refine MW.sub [1, 2, 3, 4, 5, 0] rfl ?_
              exact L56 _ _ _ (by omega) hs2 hI2 hH2 (fun c h0 h1 => by omega) rfl
        refine MW.sub [1, 2, 3, 4, 0] rfl ?_
        exact L42 _ _ _ (by omega) hs1 (far_0 (fun c h0 h1 => hw c h0 (by omega))).1 (far_0 (fun c h0 h1 => hw c h0 (by omega))).2 rfl
      · skip
        have J32_8 : ∀ (j : Int), (j = if v4 = a then 0 else 100) → MW G mi_X12_findRound (rmd 4 0 0) (MZ G (UQ sr none n K M (rdE m d a b)) 0 0) (0, 0) 32 [(0, (1, 36)), (1, (0, o)), (2, (0, b)), (3, (0, a)), (4, (0, v4))] [(0, j), (0, v4), (1, 46)] n K (M1) := by
          intro j hj
          refine x_iast (dtk dt_X12_findRound 17 (32, .iastore, 1) rfl) (wk_46 hA.wf) ⟨by omega, by omega⟩ ?_
          refine y_iinc (dtk dt_X12_findRound 18 (33, .iinc 4 1, 3) rfl) rfl (by decide) ⟨by omega, by omega⟩ ?_
          refine x_goto (tgt := 3) (dtk dt_X12_findRound 19 (36, .goto (-33), 3) rfl) (by decide) ?_
          refine MW.sub [1, 2, 3, 4, 0] rfl ?_
          exact ih3 _ (by omega) _ _ (by omega) (sr.st 46 rfl hs1) (fun c h0 h1 => by rw [st2_up]; show (if c = v4 then _ else _) = _; split; (rename_i hq; rw [hq]; exact hj); exact hw c h0 (by omega)) rfl
        refine x_aload_n (dtk dt_X12_findRound 8 (14, .aload_n 0, 1) rfl) rfl ?_
        refine fg_X12_41 rfl (dtk dt_X12_findRound 9 (15, .getfield 41, 3) rfl) (wk_36 hA.wf) (wm_36_15 (hA.off_sr hs1).wf) ?_
        refine x_iload (dtk dt_X12_findRound 10 (18, .iload 4, 2) rfl) rfl ?_
        refine x_iload (dtk dt_X12_findRound 11 (20, .iload 4, 2) rfl) rfl ?_
        refine x_iload_n (dtk dt_X12_findRound 12 (22, .iload_n 3, 1) rfl) rfl ?_
        refine x_icmp_ne (tgt := 30) (dtk dt_X12_findRound 13 (23, .if_icmp .ne 7, 3) rfl) (by decide) (fun c23 => ?_) (fun c23 => ?_)
        · skip
          refine x_bipush (v := 100) ⟨by decide, by decide⟩ (dtk dt_X12_findRound 16 (30, .bipush 100, 2) rfl) ?_
          refine MW.sub [0, 1, 2, 3, 4] rfl ?_
          exact J32_8 _ (by first | (rw [if_pos (by omega)]) | (rw [if_neg (by omega)]))
        · skip
          refine x_iconst (v := 0) ⟨by decide, by decide⟩ (dtk dt_X12_findRound 14 (26, .iconst 0, 1) rfl) ?_
          refine x_goto (tgt := 32) (dtk dt_X12_findRound 15 (27, .goto 5, 3) rfl) (by decide) ?_
          refine MW.sub [0, 1, 2, 3, 4] rfl ?_
          exact J32_8 _ (by first | (rw [if_pos (by omega)]) | (rw [if_neg (by omega)]))
  refine MW.sub [1, 2, 3, 4, 0] rfl ?_
  exact L3 _ _ _ (by omega) sr.rf (fun c h0 h1 => by omega) rfl
