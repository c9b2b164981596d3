/-! ===== the model: fewest jumps, inverses ===== -/
set_option maxRecDepth 100000 in
set_option maxHeartbeats 4000000 in
theorem c_X12_leastJumps {G : GG} {n : Nat} {K : KK} {M : MM} {o : Int} {m : Int} {d : Int → Int} (hA : AT K M o m d) : MC G mi_X12_leastJumps 3 0 0 [(1, 36), (0, o)] n K M (SQ (some (0, jmB m d)) n K M (fun _ => True)) := by
  refine MC.intro (lc := [(0, (1, 36)), (1, (0, o))]) (by decide) rfl (by simp [Nat.ble]) (Nat.le_of_ble_eq_true rfl) rfl (fun hMR => ?_)
  have ho := hA.2.1
  have hsz := hA.ok.1
  have hp := p2_b hsz
  refine x_iconst (v := 1) ⟨by decide, by decide⟩ (dtk dt_X12_leastJumps 0 (0, .iconst 1, 1) rfl) ?_
  refine x_aload_n (dtk dt_X12_leastJumps 1 (1, .aload_n 0, 1) rfl) rfl ?_
  refine fg_X12_13 rfl (dtk dt_X12_leastJumps 2 (2, .getfield 13, 3) rfl) (wk_36 hA.wf) (wm_36_2 hA.wf) ?_
  refine x_iload_n (dtk dt_X12_leastJumps 3 (5, .iload_n 1, 1) rfl) rfl ?_
  refine x_iald (dtk dt_X12_leastJumps 4 (6, .iaload, 1) rfl) (wk_38 hA.wf) ⟨by omega, by omega⟩ ?_
  rw [hA.sz]
  refine x_ishl (dtk dt_X12_leastJumps 5 (7, .ishl, 1) rfl) ?_
  change MW G _ _ _ _ _ _ ((0, p2 m) :: _) _ _ _
  refine x_iconst (v := 1) ⟨by decide, by decide⟩ (dtk dt_X12_leastJumps 6 (8, .iconst 1, 1) rfl) ?_
  refine y_isub (dtk dt_X12_leastJumps 7 (9, .isub, 1) rfl) ⟨by omega, by omega⟩ ?_
  refine x_istore_n (dtk dt_X12_leastJumps 8 (10, .istore_n 2, 1) rfl) (by decide) ?_
  have J26_2 : ∀ (jb : Int), (jb = jmZ m) → MW G mi_X12_leastJumps (rmd 3 0 0) (MZ G (SQ (some (0, jmB m d)) n K M (fun _ => True)) 0 0) (0, 0) 26 [(0, (1, 36)), (1, (0, o)), (2, (0, p2 m - 1))] [(0, jb)] n K (M) := by
    intro jb hJ
    refine x_istore_n (dtk dt_X12_leastJumps 17 (26, .istore_n 3, 1) rfl) (by decide) ?_
    refine x_iconst (v := 0) ⟨by decide, by decide⟩ (dtk dt_X12_leastJumps 18 (27, .iconst 0, 1) rfl) ?_
    refine x_istore (dtk dt_X12_leastJumps 19 (28, .istore 4, 2) rfl) (by decide) ?_
    have L30 : ∀ (fu : Nat) (v4 : Int) (M1 : MM), (0 ≤ v4 ∧ v4 ≤ 10 * p2 m) → (sc M M1) → (∀ i, 0 ≤ i → i < v4 → M1 49 i = 100) → (10 * p2 m - v4).toNat = fu → MW G mi_X12_leastJumps (rmd 3 0 0) (MZ G (SQ (some (0, jmB m d)) n K M (fun _ => True)) 0 0) (0, 0) 30 [(0, (1, 36)), (1, (0, o)), (2, (0, p2 m - 1)), (3, (0, jb)), (4, (0, v4))] [] n K (M1) := by
      intro fu
      induction fu using Nat.strongRecOn with
      | ind fu ih30 =>
        intro v4 M1 h1 hs1 hw1 hk30
        refine x_iload (dtk dt_X12_leastJumps 20 (30, .iload 4, 2) rfl) rfl ?_
        refine x_bipush (v := 10) ⟨by decide, by decide⟩ (dtk dt_X12_leastJumps 21 (32, .bipush 10, 2) rfl) ?_
        refine x_iload_n (dtk dt_X12_leastJumps 22 (34, .iload_n 2, 1) rfl) rfl ?_
        refine x_iconst (v := 1) ⟨by decide, by decide⟩ (dtk dt_X12_leastJumps 23 (35, .iconst 1, 1) rfl) ?_
        refine y_iadd (dtk dt_X12_leastJumps 24 (36, .iadd, 1) rfl) ⟨by omega, by omega⟩ ?_
        refine y_imul (dtk dt_X12_leastJumps 25 (37, .imul, 1) rfl) ⟨by omega, by omega⟩ ?_
        refine x_icmp_ge (tgt := 56) (dtk dt_X12_leastJumps 26 (38, .if_icmp .ge 18, 3) rfl) (by decide) (fun c38 => ?_) (fun c38 => ?_)
        · skip
          refine x_iconst (v := 0) ⟨by decide, by decide⟩ (dtk dt_X12_leastJumps 34 (56, .iconst 0, 1) rfl) ?_
          refine x_istore (dtk dt_X12_leastJumps 35 (57, .istore 4, 2) rfl) (by decide) ?_
          have L59 : ∀ (fu : Nat) (v4 : Int) (M2 : MM), (0 ≤ v4 ∧ v4 ≤ p2 m) → (sc M M2) → (∀ i, 0 ≤ i → i < 10 * p2 m → M2 49 i = jmS m d v4 i) → (∀ i, 0 ≤ i → i < 10 * p2 m → 0 ≤ M2 49 i ∧ M2 49 i ≤ 100) → (p2 m - v4).toNat = fu → MW G mi_X12_leastJumps (rmd 3 0 0) (MZ G (SQ (some (0, jmB m d)) n K M (fun _ => True)) 0 0) (0, 0) 59 [(0, (1, 36)), (1, (0, o)), (2, (0, p2 m - 1)), (3, (0, jb)), (4, (0, v4))] [] n K (M2) := by
            intro fu
            induction fu using Nat.strongRecOn with
            | ind fu ih59 =>
              intro v4 M2 h3 hs2 hw2 hb2 hk59
              refine x_iload (dtk dt_X12_leastJumps 36 (59, .iload 4, 2) rfl) rfl ?_
              refine x_iload_n (dtk dt_X12_leastJumps 37 (61, .iload_n 2, 1) rfl) rfl ?_
              refine x_icmp_gt (tgt := 228) (dtk dt_X12_leastJumps 38 (62, .if_icmp .gt 166, 3) rfl) (by decide) (fun c62 => ?_) (fun c62 => ?_)
              · skip
                have hw5 : ∀ i, 0 ≤ i → i < 10 * p2 m → M2 49 i = jmS m d (p2 m) i := (fun i h0 h1 => by rw [hw2 i h0 h1, show v4 = p2 m by omega])
                refine x_iconst (v := 0) ⟨by decide, by decide⟩ (dtk dt_X12_leastJumps 124 (228, .iconst 0, 1) rfl) ?_
                refine x_istore (dtk dt_X12_leastJumps 125 (229, .istore 4, 2) rfl) (by decide) ?_
                have L231 : ∀ (fu : Nat) (v3 : Int) (v4 : Int), (0 ≤ v4 ∧ v4 ≤ m) → (v3 = foldZ v4 (fun b l => if jmX m d l < b then jmX m d l else b) (jmZ m)) → (m - v4).toNat = fu → MW G mi_X12_leastJumps (rmd 3 0 0) (MZ G (SQ (some (0, jmB m d)) n K M (fun _ => True)) 0 0) (0, 0) 231 [(0, (1, 36)), (1, (0, o)), (2, (0, p2 m - 1)), (3, (0, v3)), (4, (0, v4))] [] n K (M2) := by
                  intro fu
                  induction fu using Nat.strongRecOn with
                  | ind fu ih231 =>
                    intro v3 v4 h9 h10 hk231
                    refine x_iload (dtk dt_X12_leastJumps 126 (231, .iload 4, 2) rfl) rfl ?_
                    refine x_aload_n (dtk dt_X12_leastJumps 127 (233, .aload_n 0, 1) rfl) rfl ?_
                    refine fg_X12_13 rfl (dtk dt_X12_leastJumps 128 (234, .getfield 13, 3) rfl) (wk_36 hA.wf) (wm_36_2 (hA.off hs2).wf) ?_
                    refine x_iload_n (dtk dt_X12_leastJumps 129 (237, .iload_n 1, 1) rfl) rfl ?_
                    refine x_iald (dtk dt_X12_leastJumps 130 (238, .iaload, 1) rfl) (wk_38 hA.wf) ⟨by omega, by omega⟩ ?_
                    rw [(hA.off hs2).sz]
                    refine x_icmp_ge (tgt := 281) (dtk dt_X12_leastJumps 131 (239, .if_icmp .ge 42, 3) rfl) (by decide) (fun c239 => ?_) (fun c239 => ?_)
                    · skip
                      refine x_iload_n (dtk dt_X12_leastJumps 155 (281, .iload_n 3, 1) rfl) rfl ?_
                      exact rs_i (dtk dt_X12_leastJumps 156 (282, .ireturn, 1) rfl) rfl (by rw [h10, show v4 = m by omega]; rfl) hs2 trivial
                    · skip
                      refine x_aload_n (dtk dt_X12_leastJumps 132 (242, .aload_n 0, 1) rfl) rfl ?_
                      refine fg_X12_50 rfl (dtk dt_X12_leastJumps 133 (243, .getfield 50, 3) rfl) (wk_36 hA.wf) (wm_36_18 (hA.off hs2).wf) ?_
                      refine x_bipush (v := 10) ⟨by decide, by decide⟩ (dtk dt_X12_leastJumps 134 (246, .bipush 10, 2) rfl) ?_
                      refine x_iload_n (dtk dt_X12_leastJumps 135 (248, .iload_n 2, 1) rfl) rfl ?_
                      refine y_imul (dtk dt_X12_leastJumps 136 (249, .imul, 1) rfl) ⟨by omega, by omega⟩ ?_
                      refine x_iload (dtk dt_X12_leastJumps 137 (250, .iload 4, 2) rfl) rfl ?_
                      refine y_iadd (dtk dt_X12_leastJumps 138 (252, .iadd, 1) rfl) ⟨by omega, by omega⟩ ?_
                      refine x_iald (dtk dt_X12_leastJumps 139 (253, .iaload, 1) rfl) (wk_49 hA.wf) ⟨by omega, by omega⟩ ?_
                      rw [hw5 _ (by omega) (by omega)]
                      change MW G _ _ _ _ _ _ ((0, jmX m d v4) :: _) _ _ _
                      refine x_iload_n (dtk dt_X12_leastJumps 140 (254, .iload_n 3, 1) rfl) rfl ?_
                      refine x_icmp_ge (tgt := 273) (dtk dt_X12_leastJumps 141 (255, .if_icmp .ge 18, 3) rfl) (by decide) (fun c255 => ?_) (fun c255 => ?_)
                      · skip
                        refine x_iload_n (dtk dt_X12_leastJumps 151 (273, .iload_n 3, 1) rfl) rfl ?_
                        refine x_istore_n (dtk dt_X12_leastJumps 152 (274, .istore_n 3, 1) rfl) (by decide) ?_
                        refine y_iinc (dtk dt_X12_leastJumps 153 (275, .iinc 4 1, 3) rfl) rfl (by decide) ⟨by omega, by omega⟩ ?_
                        refine x_goto (tgt := 231) (dtk dt_X12_leastJumps 154 (278, .goto (-47), 3) rfl) (by decide) ?_
                        refine MW.sub [2, 3, 4, 1, 0] rfl ?_
                        exact ih231 _ (by omega) _ _ (by omega) (by rw [foldZ_s h9.1, ← h10]; first | (rw [if_pos (by omega)]; done) | (rw [if_neg (by omega)]; done)) rfl
                      · skip
                        refine x_aload_n (dtk dt_X12_leastJumps 142 (258, .aload_n 0, 1) rfl) rfl ?_
                        refine fg_X12_50 rfl (dtk dt_X12_leastJumps 143 (259, .getfield 50, 3) rfl) (wk_36 hA.wf) (wm_36_18 (hA.off hs2).wf) ?_
                        refine x_bipush (v := 10) ⟨by decide, by decide⟩ (dtk dt_X12_leastJumps 144 (262, .bipush 10, 2) rfl) ?_
                        refine x_iload_n (dtk dt_X12_leastJumps 145 (264, .iload_n 2, 1) rfl) rfl ?_
                        refine y_imul (dtk dt_X12_leastJumps 146 (265, .imul, 1) rfl) ⟨by omega, by omega⟩ ?_
                        refine x_iload (dtk dt_X12_leastJumps 147 (266, .iload 4, 2) rfl) rfl ?_
                        refine y_iadd (dtk dt_X12_leastJumps 148 (268, .iadd, 1) rfl) ⟨by omega, by omega⟩ ?_
                        refine x_iald (dtk dt_X12_leastJumps 149 (269, .iaload, 1) rfl) (wk_49 hA.wf) ⟨by omega, by omega⟩ ?_
                        rw [hw5 _ (by omega) (by omega)]
                        change MW G _ _ _ _ _ _ ((0, jmX m d v4) :: _) _ _ _
                        refine x_goto (tgt := 274) (dtk dt_X12_leastJumps 150 (270, .goto 4, 3) rfl) (by decide) ?_
                        refine x_istore_n (dtk dt_X12_leastJumps 152 (274, .istore_n 3, 1) rfl) (by decide) ?_
                        refine y_iinc (dtk dt_X12_leastJumps 153 (275, .iinc 4 1, 3) rfl) rfl (by decide) ⟨by omega, by omega⟩ ?_
                        refine x_goto (tgt := 231) (dtk dt_X12_leastJumps 154 (278, .goto (-47), 3) rfl) (by decide) ?_
                        refine MW.sub [2, 3, 4, 1, 0] rfl ?_
                        exact ih231 _ (by omega) _ _ (by omega) (by rw [foldZ_s h9.1, ← h10]; first | (rw [if_pos (by omega)]; done) | (rw [if_neg (by omega)]; done)) rfl
                refine MW.sub [1, 2, 3, 4, 0] rfl ?_
                exact L231 _ _ _ (by omega) (by rw [foldZ_0]; exact hJ) rfl
              · skip
                refine x_iconst (v := 0) ⟨by decide, by decide⟩ (dtk dt_X12_leastJumps 39 (65, .iconst 0, 1) rfl) ?_
                refine x_istore (dtk dt_X12_leastJumps 40 (66, .istore 5, 2) rfl) (by decide) ?_
                have L68 : ∀ (fu : Nat) (v5 : Int) (M3 : MM), (0 ≤ v5 ∧ v5 ≤ m) → (sc M M3) → (∀ i, 0 ≤ i → i < 10 * p2 m → M3 49 i = jmI m d v4 (jmS m d v4) v5 i) → (∀ i, 0 ≤ i → i < 10 * p2 m → 0 ≤ M3 49 i ∧ M3 49 i ≤ 100) → (m - v5).toNat = fu → MW G mi_X12_leastJumps (rmd 3 0 0) (MZ G (SQ (some (0, jmB m d)) n K M (fun _ => True)) 0 0) (0, 0) 68 [(0, (1, 36)), (1, (0, o)), (2, (0, p2 m - 1)), (3, (0, jb)), (4, (0, v4)), (5, (0, v5))] [] n K (M3) := by
                  intro fu
                  induction fu using Nat.strongRecOn with
                  | ind fu ih68 =>
                    intro v5 M3 h5 hs3 hw3 hb3 hk68
                    refine x_iload (dtk dt_X12_leastJumps 41 (68, .iload 5, 2) rfl) rfl ?_
                    refine x_aload_n (dtk dt_X12_leastJumps 42 (70, .aload_n 0, 1) rfl) rfl ?_
                    refine fg_X12_13 rfl (dtk dt_X12_leastJumps 43 (71, .getfield 13, 3) rfl) (wk_36 hA.wf) (wm_36_2 (hA.off hs3).wf) ?_
                    refine x_iload_n (dtk dt_X12_leastJumps 44 (74, .iload_n 1, 1) rfl) rfl ?_
                    refine x_iald (dtk dt_X12_leastJumps 45 (75, .iaload, 1) rfl) (wk_38 hA.wf) ⟨by omega, by omega⟩ ?_
                    rw [(hA.off hs3).sz]
                    refine x_icmp_ge (tgt := 222) (dtk dt_X12_leastJumps 46 (76, .if_icmp .ge 146, 3) rfl) (by decide) (fun c76 => ?_) (fun c76 => ?_)
                    · skip
                      refine y_iinc (dtk dt_X12_leastJumps 122 (222, .iinc 4 1, 3) rfl) rfl (by decide) ⟨by omega, by omega⟩ ?_
                      refine x_goto (tgt := 59) (dtk dt_X12_leastJumps 123 (225, .goto (-166), 3) rfl) (by decide) ?_
                      refine MW.sub [1, 2, 3, 4, 0] rfl ?_
                      exact ih59 _ (by omega) _ _ (by omega) hs3 (fun i h0 h1 => by rw [hw3 i h0 h1, jmS_s h3.1, show v5 = m by omega]) hb3 rfl
                    · skip
                      refine x_aload_n (dtk dt_X12_leastJumps 47 (79, .aload_n 0, 1) rfl) rfl ?_
                      refine x_iload_n (dtk dt_X12_leastJumps 48 (80, .iload_n 1, 1) rfl) rfl ?_
                      refine x_iload (dtk dt_X12_leastJumps 49 (81, .iload 4, 2) rfl) rfl ?_
                      refine x_iload (dtk dt_X12_leastJumps 50 (83, .iload 5, 2) rfl) rfl ?_
                      refine x_iconst (v := 0) ⟨by decide, by decide⟩ (dtk dt_X12_leastJumps 51 (85, .iconst 0, 1) rfl) ?_
                      refine x_iconst (v := 0) ⟨by decide, by decide⟩ (dtk dt_X12_leastJumps 52 (86, .iconst 0, 1) rfl) ?_
                      refine kc_X12_142 rfl (dtk dt_X12_leastJumps 53 (87, .invokevirtual 142, 3) rfl) (c_X12_may (G := G)  (hA.off hs3) ⟨by omega, by omega⟩ (by omega) (by omega)) rfl rfl (wk_36 hA.wf) (fitR (by decide) (by decide)) (Nat.le_of_ble_eq_true rfl) (pqK ?_)
                      change MW G _ _ _ _ _ _ ((0, B (can d v4 v5)) :: _) _ _ _
                      refine x_if_eqB (tgt := 216) (dtk dt_X12_leastJumps 54 (90, .ifCond .eq 126, 3) rfl) (by decide) (fun c90 => ?_) (fun c90 => ?_)
                      · skip
                        refine y_iinc (dtk dt_X12_leastJumps 120 (216, .iinc 5 1, 3) rfl) rfl (by decide) ⟨by omega, by omega⟩ ?_
                        refine x_goto (tgt := 68) (dtk dt_X12_leastJumps 121 (219, .goto (-151), 3) rfl) (by decide) ?_
                        refine MW.sub [1, 2, 3, 4, 5, 0] rfl ?_
                        exact ih68 _ (by omega) _ _ (by omega) hs3 (fun i h0 h1 => by rw [jmI_s h5.1]; unfold jmC; first | (rw [if_pos c90, hw4 i h0 h1, show v6 = m by omega]; done) | (rw [if_neg (by rw [c90]; decide)]; exact hw3 i h0 h1)) (by first | exact hb4 | exact hb3) rfl
                      · skip
                        have hpl := plus_in (c := v5) hsz (s := v4) (by omega) (by omega)
                        refine x_iconst (v := 0) ⟨by decide, by decide⟩ (dtk dt_X12_leastJumps 55 (93, .iconst 0, 1) rfl) ?_
                        refine x_istore (dtk dt_X12_leastJumps 56 (94, .istore 6, 2) rfl) (by decide) ?_
                        have L96 : ∀ (fu : Nat) (v6 : Int) (M4 : MM), (0 ≤ v6 ∧ v6 ≤ m) → (sc M M4) → (∀ i, 0 ≤ i → i < 10 * p2 m → M4 49 i = foldG v6 (jmL d v4 v5) (jmI m d v4 (jmS m d v4) v5) i) → (∀ i, 0 ≤ i → i < 10 * p2 m → 0 ≤ M4 49 i ∧ M4 49 i ≤ 100) → (m - v6).toNat = fu → MW G mi_X12_leastJumps (rmd 3 0 0) (MZ G (SQ (some (0, jmB m d)) n K M (fun _ => True)) 0 0) (0, 0) 96 [(0, (1, 36)), (1, (0, o)), (2, (0, p2 m - 1)), (3, (0, jb)), (4, (0, v4)), (5, (0, v5)), (6, (0, v6))] [] n K (M4) := by
                          intro fu
                          induction fu using Nat.strongRecOn with
                          | ind fu ih96 =>
                            intro v6 M4 h7 hs4 hw4 hb4 hk96
                            refine x_iload (dtk dt_X12_leastJumps 57 (96, .iload 6, 2) rfl) rfl ?_
                            refine x_aload_n (dtk dt_X12_leastJumps 58 (98, .aload_n 0, 1) rfl) rfl ?_
                            refine fg_X12_13 rfl (dtk dt_X12_leastJumps 59 (99, .getfield 13, 3) rfl) (wk_36 hA.wf) (wm_36_2 (hA.off hs4).wf) ?_
                            refine x_iload_n (dtk dt_X12_leastJumps 60 (102, .iload_n 1, 1) rfl) rfl ?_
                            refine x_iald (dtk dt_X12_leastJumps 61 (103, .iaload, 1) rfl) (wk_38 hA.wf) ⟨by omega, by omega⟩ ?_
                            rw [(hA.off hs4).sz]
                            refine x_icmp_ge (tgt := 216) (dtk dt_X12_leastJumps 62 (104, .if_icmp .ge 112, 3) rfl) (by decide) (fun c104 => ?_) (fun c104 => ?_)
                            · skip
                              refine y_iinc (dtk dt_X12_leastJumps 120 (216, .iinc 5 1, 3) rfl) rfl (by decide) ⟨by omega, by omega⟩ ?_
                              refine x_goto (tgt := 68) (dtk dt_X12_leastJumps 121 (219, .goto (-151), 3) rfl) (by decide) ?_
                              refine MW.sub [1, 2, 3, 4, 5, 0] rfl ?_
                              exact ih68 _ (by omega) _ _ (by omega) hs4 (fun i h0 h1 => by rw [jmI_s h5.1]; unfold jmC; first | (rw [if_pos c90, hw4 i h0 h1, show v6 = m by omega]; done) | (rw [if_neg (by rw [c90]; decide)]; exact hw3 i h0 h1)) (by first | exact hb4 | exact hb3) rfl
                            · skip
                              have J162_30 : ∀ (j7 : Int), (j7 = jvv d v4 v5 (M4 49) v6) → (0 ≤ j7 ∧ j7 ≤ 101) → MW G mi_X12_leastJumps (rmd 3 0 0) (MZ G (SQ (some (0, jmB m d)) n K M (fun _ => True)) 0 0) (0, 0) 162 [(0, (1, 36)), (1, (0, o)), (2, (0, p2 m - 1)), (3, (0, jb)), (4, (0, v4)), (5, (0, v5)), (6, (0, v6))] [(0, j7)] n K (M4) := by
                                intro j7 hj hjb
                                have hjv : jvv d v4 v5 (foldG v6 (jmL d v4 v5) (jmI m d v4 (jmS m d v4) v5)) v6 = j7 := by (rw [hj]; unfold jvv; split; rfl; split; (rw [hw4 _ (by omega) (by omega)]); rfl)
                                refine x_istore (dtk dt_X12_leastJumps 91 (162, .istore 7, 2) rfl) (by decide) ?_
                                refine x_bipush (v := 10) ⟨by decide, by decide⟩ (dtk dt_X12_leastJumps 92 (164, .bipush 10, 2) rfl) ?_
                                refine x_iload (dtk dt_X12_leastJumps 93 (166, .iload 4, 2) rfl) rfl ?_
                                refine x_iconst (v := 1) ⟨by decide, by decide⟩ (dtk dt_X12_leastJumps 94 (168, .iconst 1, 1) rfl) ?_
                                refine x_iload (dtk dt_X12_leastJumps 95 (169, .iload 5, 2) rfl) rfl ?_
                                refine x_ishl (dtk dt_X12_leastJumps 96 (171, .ishl, 1) rfl) ?_
                                refine x_ior (dtk dt_X12_leastJumps 97 (172, .ior, 1) rfl) ?_
                                change MW G _ _ _ _ _ _ ((0, plus v4 v5) :: _) _ _ _
                                refine y_imul (dtk dt_X12_leastJumps 98 (173, .imul, 1) rfl) ⟨by omega, by omega⟩ ?_
                                refine x_iload (dtk dt_X12_leastJumps 99 (174, .iload 5, 2) rfl) rfl ?_
                                refine y_iadd (dtk dt_X12_leastJumps 100 (176, .iadd, 1) rfl) ⟨by omega, by omega⟩ ?_
                                refine x_istore (dtk dt_X12_leastJumps 101 (177, .istore 8, 2) rfl) (by decide) ?_
                                have hz2 := hb4 (10 * plus v4 v5 + v5) (by omega) (by omega)
                                refine x_aload_n (dtk dt_X12_leastJumps 102 (179, .aload_n 0, 1) rfl) rfl ?_
                                refine fg_X12_50 rfl (dtk dt_X12_leastJumps 103 (180, .getfield 50, 3) rfl) (wk_36 hA.wf) (wm_36_18 (hA.off hs4).wf) ?_
                                refine x_iload (dtk dt_X12_leastJumps 104 (183, .iload 8, 2) rfl) rfl ?_
                                refine x_iload (dtk dt_X12_leastJumps 105 (185, .iload 7, 2) rfl) rfl ?_
                                refine x_aload_n (dtk dt_X12_leastJumps 106 (187, .aload_n 0, 1) rfl) rfl ?_
                                refine fg_X12_50 rfl (dtk dt_X12_leastJumps 107 (188, .getfield 50, 3) rfl) (wk_36 hA.wf) (wm_36_18 (hA.off hs4).wf) ?_
                                refine x_iload (dtk dt_X12_leastJumps 108 (191, .iload 8, 2) rfl) rfl ?_
                                refine x_iald (dtk dt_X12_leastJumps 109 (193, .iaload, 1) rfl) (wk_49 hA.wf) ⟨by omega, by omega⟩ ?_
                                refine x_icmp_ge (tgt := 202) (dtk dt_X12_leastJumps 110 (194, .if_icmp .ge 8, 3) rfl) (by decide) (fun c194 => ?_) (fun c194 => ?_)
                                · skip
                                  refine x_aload_n (dtk dt_X12_leastJumps 113 (202, .aload_n 0, 1) rfl) rfl ?_
                                  refine fg_X12_50 rfl (dtk dt_X12_leastJumps 114 (203, .getfield 50, 3) rfl) (wk_36 hA.wf) (wm_36_18 (hA.off hs4).wf) ?_
                                  refine x_iload (dtk dt_X12_leastJumps 115 (206, .iload 8, 2) rfl) rfl ?_
                                  refine x_iald (dtk dt_X12_leastJumps 116 (208, .iaload, 1) rfl) (wk_49 hA.wf) ⟨by omega, by omega⟩ ?_
                                  refine x_iast (dtk dt_X12_leastJumps 117 (209, .iastore, 1) rfl) (wk_49 hA.wf) ⟨by omega, by omega⟩ ?_
                                  refine y_iinc (dtk dt_X12_leastJumps 118 (210, .iinc 6 1, 3) rfl) rfl (by decide) ⟨by omega, by omega⟩ ?_
                                  refine x_goto (tgt := 96) (dtk dt_X12_leastJumps 119 (213, .goto (-117), 3) rfl) (by decide) ?_
                                  refine MW.sub [3, 4, 5, 6, 7, 8, 0] rfl ?_
                                  exact ih96 _ (by omega) _ _ (by omega) (sc.st 49 rfl hs4) (fun i h0 h1 => by clear ih30 ih59 ih68 ih96; rw [foldG_s h7.1]; show _ = jmL d v4 v5 (foldG v6 (jmL d v4 v5) (jmI m d v4 (jmS m d v4) v5)) v6 i; rw [jmL_at, hjv]; by_cases hq : i = 10 * plus v4 v5 + v5; (focus (rw [hq, st2_self, if_pos rfl, ← hw4 _ (by omega) (by omega)]; first | (rw [if_pos (by omega)]; done) | (rw [if_neg (by omega)]; done))); (rw [st2_o _ hq, if_neg hq]; exact hw4 i h0 h1)) (fun i h0 h1 => by by_cases hq : i = 10 * plus v4 v5 + v5; (rw [hq, st2_self]; have z1 := hb4 (10 * plus v4 v5 + v5) (by omega) (by omega); omega); (rw [st2_o _ hq]; exact hb4 i h0 h1)) rfl
                                · skip
                                  refine x_iload (dtk dt_X12_leastJumps 111 (197, .iload 7, 2) rfl) rfl ?_
                                  refine x_goto (tgt := 209) (dtk dt_X12_leastJumps 112 (199, .goto 10, 3) rfl) (by decide) ?_
                                  refine x_iast (dtk dt_X12_leastJumps 117 (209, .iastore, 1) rfl) (wk_49 hA.wf) ⟨by omega, by omega⟩ ?_
                                  refine y_iinc (dtk dt_X12_leastJumps 118 (210, .iinc 6 1, 3) rfl) rfl (by decide) ⟨by omega, by omega⟩ ?_
                                  refine x_goto (tgt := 96) (dtk dt_X12_leastJumps 119 (213, .goto (-117), 3) rfl) (by decide) ?_
                                  refine MW.sub [3, 4, 5, 6, 7, 8, 0] rfl ?_
                                  exact ih96 _ (by omega) _ _ (by omega) (sc.st 49 rfl hs4) (fun i h0 h1 => by clear ih30 ih59 ih68 ih96; rw [foldG_s h7.1]; show _ = jmL d v4 v5 (foldG v6 (jmL d v4 v5) (jmI m d v4 (jmS m d v4) v5)) v6 i; rw [jmL_at, hjv]; by_cases hq : i = 10 * plus v4 v5 + v5; (focus (rw [hq, st2_self, if_pos rfl, ← hw4 _ (by omega) (by omega)]; first | (rw [if_pos (by omega)]; done) | (rw [if_neg (by omega)]; done))); (rw [st2_o _ hq, if_neg hq]; exact hw4 i h0 h1)) (fun i h0 h1 => by by_cases hq : i = 10 * plus v4 v5 + v5; (rw [hq, st2_self]; have z1 := hb4 (10 * plus v4 v5 + v5) (by omega) (by omega); omega); (rw [st2_o _ hq]; exact hb4 i h0 h1)) rfl
                              refine x_iload (dtk dt_X12_leastJumps 63 (107, .iload 4, 2) rfl) rfl ?_
                              refine x_if_ne (tgt := 116) (dtk dt_X12_leastJumps 64 (109, .ifCond .ne 7, 3) rfl) (by decide) (fun c109 => ?_) (fun c109 => ?_)
                              · skip
                                refine x_iload (dtk dt_X12_leastJumps 67 (116, .iload 4, 2) rfl) rfl ?_
                                refine x_iload (dtk dt_X12_leastJumps 68 (118, .iload 6, 2) rfl) rfl ?_
                                refine kc_X12_82 rfl (dtk dt_X12_leastJumps 69 (120, .invokestatic 82, 3) rfl) (c_X12_has (G := G)  ⟨by omega, by omega⟩ (by omega)) rfl rfl (fitR (by decide) (by decide)) (Nat.le_of_ble_eq_true rfl) (pqK ?_)
                                refine x_if_eqB (tgt := 160) (dtk dt_X12_leastJumps 70 (123, .ifCond .eq 37, 3) rfl) (by decide) (fun c123 => ?_) (fun c123 => ?_)
                                · skip
                                  refine x_bipush (v := 100) ⟨by decide, by decide⟩ (dtk dt_X12_leastJumps 90 (160, .bipush 100, 2) rfl) ?_
                                  refine MW.sub [0, 1, 2, 3, 4, 5, 6] rfl ?_
                                  exact J162_30 _ (by clear ih30 ih59 ih68 ih96 J162_30; unfold jvv; simp_all [B]) (by omega)
                                · skip
                                  refine x_aload_n (dtk dt_X12_leastJumps 71 (126, .aload_n 0, 1) rfl) rfl ?_
                                  refine fg_X12_50 rfl (dtk dt_X12_leastJumps 72 (127, .getfield 50, 3) rfl) (wk_36 hA.wf) (wm_36_18 (hA.off hs4).wf) ?_
                                  refine x_bipush (v := 10) ⟨by decide, by decide⟩ (dtk dt_X12_leastJumps 73 (130, .bipush 10, 2) rfl) ?_
                                  refine x_iload (dtk dt_X12_leastJumps 74 (132, .iload 4, 2) rfl) rfl ?_
                                  refine y_imul (dtk dt_X12_leastJumps 75 (134, .imul, 1) rfl) ⟨by omega, by omega⟩ ?_
                                  refine x_iload (dtk dt_X12_leastJumps 76 (135, .iload 6, 2) rfl) rfl ?_
                                  refine y_iadd (dtk dt_X12_leastJumps 77 (137, .iadd, 1) rfl) ⟨by omega, by omega⟩ ?_
                                  refine x_iald (dtk dt_X12_leastJumps 78 (138, .iaload, 1) rfl) (wk_49 hA.wf) ⟨by omega, by omega⟩ ?_
                                  have hz := hb4 (10 * v4 + v6) (by omega) (by omega)
                                  refine x_aload_n (dtk dt_X12_leastJumps 79 (139, .aload_n 0, 1) rfl) rfl ?_
                                  refine x_iload_n (dtk dt_X12_leastJumps 80 (140, .iload_n 1, 1) rfl) rfl ?_
                                  refine x_iload (dtk dt_X12_leastJumps 81 (141, .iload 6, 2) rfl) rfl ?_
                                  refine x_iload (dtk dt_X12_leastJumps 82 (143, .iload 5, 2) rfl) rfl ?_
                                  refine kc_X12_86 rfl (dtk dt_X12_leastJumps 83 (145, .invokevirtual 86, 3) rfl) (c_X12_isBelow (G := G)  (hA.off hs4) (by omega) (by omega)) rfl rfl (wk_36 hA.wf) (fitR (by decide) (by decide)) (Nat.le_of_ble_eq_true rfl) (pqK ?_)
                                  refine x_if_eqB (tgt := 155) (dtk dt_X12_leastJumps 84 (148, .ifCond .eq 7, 3) rfl) (by decide) (fun c148 => ?_) (fun c148 => ?_)
                                  · skip
                                    refine x_iconst (v := 1) ⟨by decide, by decide⟩ (dtk dt_X12_leastJumps 87 (155, .iconst 1, 1) rfl) ?_
                                    refine y_iadd (dtk dt_X12_leastJumps 88 (156, .iadd, 1) rfl) ⟨by omega, by omega⟩ ?_
                                    refine x_goto (tgt := 162) (dtk dt_X12_leastJumps 89 (157, .goto 5, 3) rfl) (by decide) ?_
                                    refine MW.sub [0, 1, 2, 3, 4, 5, 6] rfl ?_
                                    exact J162_30 _ (by clear ih30 ih59 ih68 ih96 J162_30; unfold jvv; simp_all [B]) (by omega)
                                  · skip
                                    refine x_iconst (v := 0) ⟨by decide, by decide⟩ (dtk dt_X12_leastJumps 85 (151, .iconst 0, 1) rfl) ?_
                                    refine x_goto (tgt := 156) (dtk dt_X12_leastJumps 86 (152, .goto 4, 3) rfl) (by decide) ?_
                                    refine y_iadd (dtk dt_X12_leastJumps 88 (156, .iadd, 1) rfl) ⟨by omega, by omega⟩ ?_
                                    refine x_goto (tgt := 162) (dtk dt_X12_leastJumps 89 (157, .goto 5, 3) rfl) (by decide) ?_
                                    refine MW.sub [0, 1, 2, 3, 4, 5, 6] rfl ?_
                                    exact J162_30 _ (by clear ih30 ih59 ih68 ih96 J162_30; unfold jvv; simp_all [B]) (by omega)
                              · skip
                                refine x_iconst (v := 0) ⟨by decide, by decide⟩ (dtk dt_X12_leastJumps 65 (112, .iconst 0, 1) rfl) ?_
                                refine x_goto (tgt := 162) (dtk dt_X12_leastJumps 66 (113, .goto 49, 3) rfl) (by decide) ?_
                                refine MW.sub [0, 1, 2, 3, 4, 5, 6] rfl ?_
                                exact J162_30 _ (by clear ih30 ih59 ih68 ih96 J162_30; unfold jvv; simp_all [B]) (by omega)
                        refine MW.sub [1, 2, 3, 4, 5, 6, 0] rfl ?_
                        exact L96 _ _ _ (by omega) hs3 hw3 hb3 rfl
                refine MW.sub [1, 2, 3, 4, 5, 0] rfl ?_
                exact L68 _ _ _ (by omega) hs2 hw2 hb2 rfl
          refine MW.sub [1, 2, 3, 4, 0] rfl ?_
          exact L59 _ _ _ (by omega) hs1 (fun i h0 h1 => hw1 i h0 (by omega)) (fun i h0 h1 => by rw [hw1 i h0 (by omega)]; omega) rfl
        · skip
          refine x_aload_n (dtk dt_X12_leastJumps 27 (41, .aload_n 0, 1) rfl) rfl ?_
          refine fg_X12_50 rfl (dtk dt_X12_leastJumps 28 (42, .getfield 50, 3) rfl) (wk_36 hA.wf) (wm_36_18 (hA.off hs1).wf) ?_
          refine x_iload (dtk dt_X12_leastJumps 29 (45, .iload 4, 2) rfl) rfl ?_
          refine x_bipush (v := 100) ⟨by decide, by decide⟩ (dtk dt_X12_leastJumps 30 (47, .bipush 100, 2) rfl) ?_
          refine x_iast (dtk dt_X12_leastJumps 31 (49, .iastore, 1) rfl) (wk_49 hA.wf) ⟨by omega, by omega⟩ ?_
          refine y_iinc (dtk dt_X12_leastJumps 32 (50, .iinc 4 1, 3) rfl) rfl (by decide) ⟨by omega, by omega⟩ ?_
          refine x_goto (tgt := 30) (dtk dt_X12_leastJumps 33 (53, .goto (-23), 3) rfl) (by decide) ?_
          refine MW.sub [1, 2, 3, 4, 0] rfl ?_
          exact ih30 _ (by omega) _ _ (by omega) (sc.st 49 rfl hs1) (fun i h0 h1 => by by_cases hq : i = v4; (rw [hq, st2_self]); (rw [st2_o _ hq]; exact hw1 i h0 (by omega))) rfl
    refine MW.sub [2, 3, 4, 1, 0] rfl ?_
    exact L30 _ _ _ (by omega) sc.rf (fun i h0 h1 => by omega) rfl
  refine x_aload_n (dtk dt_X12_leastJumps 9 (11, .aload_n 0, 1) rfl) rfl ?_
  refine fg_X12_13 rfl (dtk dt_X12_leastJumps 10 (12, .getfield 13, 3) rfl) (wk_36 hA.wf) (wm_36_2 hA.wf) ?_
  refine x_iload_n (dtk dt_X12_leastJumps 11 (15, .iload_n 1, 1) rfl) rfl ?_
  refine x_iald (dtk dt_X12_leastJumps 12 (16, .iaload, 1) rfl) (wk_38 hA.wf) ⟨by omega, by omega⟩ ?_
  rw [hA.sz]
  refine x_if_ne (tgt := 24) (dtk dt_X12_leastJumps 13 (17, .ifCond .ne 7, 3) rfl) (by decide) (fun c17 => ?_) (fun c17 => ?_)
  · skip
    refine x_bipush (v := 100) ⟨by decide, by decide⟩ (dtk dt_X12_leastJumps 16 (24, .bipush 100, 2) rfl) ?_
    refine MW.sub [1, 2, 0] rfl ?_
    exact J26_2 _ (by unfold jmZ; simp_all)
  · skip
    refine x_iconst (v := 0) ⟨by decide, by decide⟩ (dtk dt_X12_leastJumps 14 (20, .iconst 0, 1) rfl) ?_
    refine x_goto (tgt := 26) (dtk dt_X12_leastJumps 15 (21, .goto 5, 3) rfl) (by decide) ?_
    refine MW.sub [1, 2, 0] rfl ?_
    exact J26_2 _ (by unfold jmZ; simp_all)
set_option maxRecDepth 100000 in
set_option maxHeartbeats 4000000 in
theorem c_X12_invert {G : GG} {n : Nat} {K : KK} {M : MM} {o a b : Int} (hm : MO K M) : MC G mi_X12_invert 4 0 0 [(1, 36), (0, o), (0, a), (0, b)] n K M (SQ (some (0, if isTh M o a && isTh M o b then invS (M 38 o) (dM M o) a (M 54) 10 b else -1000000)) n K M (fun _ => True)) := by
  refine MC.intro (lc := [(0, (1, 36)), (1, (0, o)), (2, (0, a)), (3, (0, b))]) (by decide) rfl (by simp [Nat.ble]) (Nat.le_of_ble_eq_true rfl) rfl (fun hMR => ?_)
  refine x_aload_n (dtk dt_X12_invert 0 (0, .aload_n 0, 1) rfl) rfl ?_
  refine x_iload_n (dtk dt_X12_invert 1 (1, .iload_n 1, 1) rfl) rfl ?_
  refine x_iload_n (dtk dt_X12_invert 2 (2, .iload_n 2, 1) rfl) rfl ?_
  refine kc_X12_110 rfl (dtk dt_X12_invert 3 (3, .invokevirtual 110, 3) rfl) (c_X12_isThing (G := G)  hm) rfl rfl (wk_36 hm.1) (fitR (by decide) (by decide)) (Nat.le_of_ble_eq_true rfl) (pqK ?_)
  refine x_if_eqB (tgt := 18) (dtk dt_X12_invert 4 (6, .ifCond .eq 12, 3) rfl) (by decide) (fun c6 => ?_) (fun c6 => ?_)
  · skip
    refine x_ldc (v := -1000000) (dtk dt_X12_invert 10 (18, .ldc 218, 2) rfl) ⟨by decide, by decide⟩ (show Jvm.Cond.constant "HalfOrdersModel" 218 (Int32.ofInt (-1000000)) ∈ mw_tbl from by rw [show Int32.ofInt (-1000000) = (-1000000 : Int32) from by decide]; exact w1435) ?_
    exact rs_i (dtk dt_X12_invert 11 (20, .ireturn, 1) rfl) rfl (by first | (rw [c6]; rfl) | (rw [c15, Bool.and_false]; rfl)) sc.rf trivial
  · skip
    refine x_aload_n (dtk dt_X12_invert 5 (9, .aload_n 0, 1) rfl) rfl ?_
    refine x_iload_n (dtk dt_X12_invert 6 (10, .iload_n 1, 1) rfl) rfl ?_
    refine x_iload_n (dtk dt_X12_invert 7 (11, .iload_n 3, 1) rfl) rfl ?_
    refine kc_X12_110 rfl (dtk dt_X12_invert 8 (12, .invokevirtual 110, 3) rfl) (c_X12_isThing (G := G)  hm) rfl rfl (wk_36 hm.1) (fitR (by decide) (by decide)) (Nat.le_of_ble_eq_true rfl) (pqK ?_)
    refine x_if_neB (tgt := 21) (dtk dt_X12_invert 9 (15, .ifCond .ne 6, 3) rfl) (by decide) (fun c15 => ?_) (fun c15 => ?_)
    · skip
      have ht := isTh_of hm c6
      have ht2 := isTh_of hm c15
      have hA : AT K M o (M 38 o) (dM M o) := ⟨hm, ht.1, rfl, rfl⟩
      have hsz := hA.ok.1
      refine x_iconst (v := 0) ⟨by decide, by decide⟩ (dtk dt_X12_invert 12 (21, .iconst 0, 1) rfl) ?_
      refine x_istore (dtk dt_X12_invert 13 (22, .istore 4, 2) rfl) (by decide) ?_
      have L24 : ∀ (fu : Nat) (v4 : Int) (M2 : MM), (0 ≤ v4 ∧ v4 ≤ 10) → (sc M M2) → (∀ i, 0 ≤ i → i < 10 → M2 54 i = invS (M 38 o) (dM M o) a (M 54) v4 i) → (10 - v4).toNat = fu → MW G mi_X12_invert (rmd 4 0 0) (MZ G (SQ (some (0, if isTh M o a && isTh M o b then invS (M 38 o) (dM M o) a (M 54) 10 b else -1000000)) n K M (fun _ => True)) 0 0) (0, 0) 24 [(0, (1, 36)), (1, (0, o)), (2, (0, a)), (3, (0, b)), (4, (0, v4))] [] n K (M2) := by
        intro fu
        induction fu using Nat.strongRecOn with
        | ind fu ih24 =>
          intro v4 M2 h1 hs2 hw2 hk24
          have hh1 := h1
          refine x_iload (dtk dt_X12_invert 14 (24, .iload 4, 2) rfl) rfl ?_
          refine x_bipush (v := 10) ⟨by decide, by decide⟩ (dtk dt_X12_invert 15 (26, .bipush 10, 2) rfl) ?_
          refine x_icmp_ge (tgt := 175) (dtk dt_X12_invert 16 (28, .if_icmp .ge 147, 3) rfl) (by decide) (fun c28 => ?_) (fun c28 => ?_)
          · skip
            refine x_aload_n (dtk dt_X12_invert 92 (175, .aload_n 0, 1) rfl) rfl ?_
            refine fg_X12_65 rfl (dtk dt_X12_invert 93 (176, .getfield 65, 3) rfl) (wk_36 hA.wf) (wm_36_26 (hA.off hs2).wf) ?_
            refine x_iload_n (dtk dt_X12_invert 94 (179, .iload_n 3, 1) rfl) rfl ?_
            refine x_iald (dtk dt_X12_invert 95 (180, .iaload, 1) rfl) (wk_54 hA.wf) ⟨by omega, by omega⟩ ?_
            rw [hw2 b (by omega) (by omega)]
            exact rs_i (dtk dt_X12_invert 96 (181, .ireturn, 1) rfl) rfl (by rw [if_pos (by rw [c6, c15]; rfl), show v4 = 10 by omega]) hs2 trivial
          · skip
            refine x_iconst (v := 0) ⟨by decide, by decide⟩ (dtk dt_X12_invert 17 (31, .iconst 0, 1) rfl) ?_
            refine x_istore (dtk dt_X12_invert 18 (32, .istore 5, 2) rfl) (by decide) ?_
            have L34 : ∀ (fu : Nat) (v5 : Int) (M3 : MM), (0 ≤ v5 ∧ v5 ≤ M 38 o) → (sc M M3) → (∀ i, 0 ≤ i → i < 10 → M3 54 i = invK (M 38 o) (dM M o) a v4 (invS (M 38 o) (dM M o) a (M 54) v4) v5 i) → (M 38 o - v5).toNat = fu → MW G mi_X12_invert (rmd 4 0 0) (MZ G (SQ (some (0, if isTh M o a && isTh M o b then invS (M 38 o) (dM M o) a (M 54) 10 b else -1000000)) n K M (fun _ => True)) 0 0) (0, 0) 34 [(0, (1, 36)), (1, (0, o)), (2, (0, a)), (3, (0, b)), (4, (0, v4)), (5, (0, v5))] [] n K (M3) := by
              intro fu
              induction fu using Nat.strongRecOn with
              | ind fu ih34 =>
                intro v5 M3 h3 hs3 hw3 hk34
                refine x_iload (dtk dt_X12_invert 19 (34, .iload 5, 2) rfl) rfl ?_
                refine x_aload_n (dtk dt_X12_invert 20 (36, .aload_n 0, 1) rfl) rfl ?_
                refine fg_X12_13 rfl (dtk dt_X12_invert 21 (37, .getfield 13, 3) rfl) (wk_36 hA.wf) (wm_36_2 (hA.off hs3).wf) ?_
                refine x_iload_n (dtk dt_X12_invert 22 (40, .iload_n 1, 1) rfl) rfl ?_
                refine x_iald (dtk dt_X12_invert 23 (41, .iaload, 1) rfl) (wk_38 hA.wf) ⟨by omega, by omega⟩ ?_
                rw [(hA.off hs3).sz]
                refine x_icmp_ge (tgt := 169) (dtk dt_X12_invert 24 (42, .if_icmp .ge 127, 3) rfl) (by decide) (fun c42 => ?_) (fun c42 => ?_)
                · skip
                  refine y_iinc (dtk dt_X12_invert 90 (169, .iinc 4 1, 3) rfl) rfl (by decide) ⟨by omega, by omega⟩ ?_
                  refine x_goto (tgt := 24) (dtk dt_X12_invert 91 (172, .goto (-148), 3) rfl) (by decide) ?_
                  refine MW.sub [1, 2, 3, 4, 0] rfl ?_
                  exact ih24 _ (by omega) _ _ (by omega) hs3 (fun i h0 h1 => by rw [hw3 i h0 h1, invS_s hh1.1, show v5 = M 38 o by omega]) rfl
                · skip
                  refine x_aload_n (dtk dt_X12_invert 25 (45, .aload_n 0, 1) rfl) rfl ?_
                  refine fg_X12_16 rfl (dtk dt_X12_invert 26 (46, .getfield 16, 3) rfl) (wk_36 hA.wf) (wm_36_3 (hA.off hs3).wf) ?_
                  refine x_bipush (v := 10) ⟨by decide, by decide⟩ (dtk dt_X12_invert 27 (49, .bipush 10, 2) rfl) ?_
                  refine x_iload_n (dtk dt_X12_invert 28 (51, .iload_n 1, 1) rfl) rfl ?_
                  refine y_imul (dtk dt_X12_invert 29 (52, .imul, 1) rfl) ⟨by omega, by omega⟩ ?_
                  refine x_iload (dtk dt_X12_invert 30 (53, .iload 5, 2) rfl) rfl ?_
                  refine y_iadd (dtk dt_X12_invert 31 (55, .iadd, 1) rfl) ⟨by omega, by omega⟩ ?_
                  refine x_iald (dtk dt_X12_invert 32 (56, .iaload, 1) rfl) (wk_39 hA.wf) ⟨by omega, by omega⟩ ?_
                  rw [(hA.off hs3).at]
                  refine kc_X12_133 rfl (dtk dt_X12_invert 33 (57, .invokestatic 133, 3) rfl) (c_X12_bits (G := G)  (hA.ok.nn (by omega))) rfl rfl (fitR (by decide) (by decide)) (Nat.le_of_ble_eq_true rfl) (pqK ?_)
                  change MW G _ _ _ _ _ _ ((0, cnt (dM M o v5)) :: _) _ _ _
                  refine x_iload (dtk dt_X12_invert 34 (60, .iload 4, 2) rfl) rfl ?_
                  refine x_icmp_ne (tgt := 163) (dtk dt_X12_invert 35 (62, .if_icmp .ne 101, 3) rfl) (by decide) (fun c62 => ?_) (fun c62 => ?_)
                  · skip
                    refine y_iinc (dtk dt_X12_invert 88 (163, .iinc 5 1, 3) rfl) rfl (by decide) ⟨by omega, by omega⟩ ?_
                    refine x_goto (tgt := 34) (dtk dt_X12_invert 89 (166, .goto (-132), 3) rfl) (by decide) ?_
                    refine MW.sub [1, 2, 3, 4, 5, 0] rfl ?_
                    exact ih34 _ (by omega) _ _ (by omega) hs3 (fun i h0 h1 => by rw [invK_s h3.1]; unfold invC; first | (rw [if_neg c62]; exact hw3 i h0 h1) | (rw [if_pos (by omega)]; by_cases hq : i = v5; (focus (rw [hq, st2_self, if_pos rfl]; unfold invV; first | (rw [if_pos (h7 (by omega)), h6, show v7 = M 38 o by omega]; done) | (rw [if_neg (by rw [c100]; decide), h6, show v7 = 0 by (by_cases hz : v7 = 0; exact hz; (have := h7 (by omega); rw [c100] at this; cases this))]; rfl))); (rw [st2_o _ hq, if_neg hq]; exact hw3 i h0 h1))) rfl
                  · skip
                    have hJi : v5 = v5 := rfl
                    have J76_20 : ∀ (jb : Bool), (jb = decide (v5 = a)) → MW G mi_X12_invert (rmd 4 0 0) (MZ G (SQ (some (0, if isTh M o a && isTh M o b then invS (M 38 o) (dM M o) a (M 54) 10 b else -1000000)) n K M (fun _ => True)) 0 0) (0, 0) 76 [(0, (1, 36)), (1, (0, o)), (2, (0, a)), (3, (0, b)), (4, (0, v4)), (5, (0, v5))] [(0, B jb)] n K (M3) := by
                      intro jb hJ
                      refine x_istore (dtk dt_X12_invert 42 (76, .istore 6, 2) rfl) (by decide) ?_
                      refine x_iconst (v := 0) ⟨by decide, by decide⟩ (dtk dt_X12_invert 43 (78, .iconst 0, 1) rfl) ?_
                      refine x_istore (dtk dt_X12_invert 44 (79, .istore 7, 2) rfl) (by decide) ?_
                      have L81 : ∀ (fu : Nat) (v6 : Int) (v7 : Int), (0 ≤ v7 ∧ v7 ≤ M 38 o) → (v6 = foldZ v7 (fun v e => wr (v - invT (dM M o) a v5 (invK (M 38 o) (dM M o) a v4 (invS (M 38 o) (dM M o) a (M 54) v4) v5) e)) (B (decide (v5 = a)))) → (0 < v7 → rel (dM M o) a v5 = true) → (M 38 o - v7).toNat = fu → MW G mi_X12_invert (rmd 4 0 0) (MZ G (SQ (some (0, if isTh M o a && isTh M o b then invS (M 38 o) (dM M o) a (M 54) 10 b else -1000000)) n K M (fun _ => True)) 0 0) (0, 0) 81 [(0, (1, 36)), (1, (0, o)), (2, (0, a)), (3, (0, b)), (4, (0, v4)), (5, (0, v5)), (6, (0, v6)), (7, (0, v7))] [] n K (M3) := by
                        intro fu
                        induction fu using Nat.strongRecOn with
                        | ind fu ih81 =>
                          intro v6 v7 h5 h6 h7 hk81
                          refine x_iload (dtk dt_X12_invert 45 (81, .iload 7, 2) rfl) rfl ?_
                          refine x_aload_n (dtk dt_X12_invert 46 (83, .aload_n 0, 1) rfl) rfl ?_
                          refine fg_X12_13 rfl (dtk dt_X12_invert 47 (84, .getfield 13, 3) rfl) (wk_36 hA.wf) (wm_36_2 (hA.off hs3).wf) ?_
                          refine x_iload_n (dtk dt_X12_invert 48 (87, .iload_n 1, 1) rfl) rfl ?_
                          refine x_iald (dtk dt_X12_invert 49 (88, .iaload, 1) rfl) (wk_38 hA.wf) ⟨by omega, by omega⟩ ?_
                          rw [(hA.off hs3).sz]
                          refine x_icmp_ge (tgt := 154) (dtk dt_X12_invert 50 (89, .if_icmp .ge 65, 3) rfl) (by decide) (fun c89 => ?_) (fun c89 => ?_)
                          · skip
                            refine x_aload_n (dtk dt_X12_invert 83 (154, .aload_n 0, 1) rfl) rfl ?_
                            refine fg_X12_65 rfl (dtk dt_X12_invert 84 (155, .getfield 65, 3) rfl) (wk_36 hA.wf) (wm_36_26 (hA.off hs3).wf) ?_
                            refine x_iload (dtk dt_X12_invert 85 (158, .iload 5, 2) rfl) rfl ?_
                            refine x_iload (dtk dt_X12_invert 86 (160, .iload 6, 2) rfl) rfl ?_
                            refine x_iast (dtk dt_X12_invert 87 (162, .iastore, 1) rfl) (wk_54 hA.wf) ⟨by omega, by omega⟩ ?_
                            refine y_iinc (dtk dt_X12_invert 88 (163, .iinc 5 1, 3) rfl) rfl (by decide) ⟨by omega, by omega⟩ ?_
                            refine x_goto (tgt := 34) (dtk dt_X12_invert 89 (166, .goto (-132), 3) rfl) (by decide) ?_
                            refine MW.sub [1, 2, 3, 4, 5, 0] rfl ?_
                            exact ih34 _ (by omega) _ _ (by omega) (sc.st 54 rfl hs3) (fun i h0 h1 => by rw [invK_s h3.1]; unfold invC; first | (rw [if_neg c62]; exact hw3 i h0 h1) | (rw [if_pos (by omega)]; by_cases hq : i = v5; (focus (rw [hq, st2_self, if_pos rfl]; unfold invV; first | (rw [if_pos (h7 (by omega)), h6, show v7 = M 38 o by omega]; done) | (rw [if_neg (by rw [c100]; decide), h6, show v7 = 0 by (by_cases hz : v7 = 0; exact hz; (have := h7 (by omega); rw [c100] at this; cases this))]; rfl))); (rw [st2_o _ hq, if_neg hq]; exact hw3 i h0 h1))) rfl
                          · skip
                            refine x_aload_n (dtk dt_X12_invert 51 (92, .aload_n 0, 1) rfl) rfl ?_
                            refine x_iload_n (dtk dt_X12_invert 52 (93, .iload_n 1, 1) rfl) rfl ?_
                            refine x_iload_n (dtk dt_X12_invert 53 (94, .iload_n 2, 1) rfl) rfl ?_
                            refine x_iload (dtk dt_X12_invert 54 (95, .iload 5, 2) rfl) rfl ?_
                            refine kc_X12_86 rfl (dtk dt_X12_invert 55 (97, .invokevirtual 86, 3) rfl) (c_X12_isBelow (G := G)  (hA.off hs3) (by omega) (by omega)) rfl rfl (wk_36 hA.wf) (fitR (by decide) (by decide)) (Nat.le_of_ble_eq_true rfl) (pqK ?_)
                            refine x_if_eqB (tgt := 154) (dtk dt_X12_invert 56 (100, .ifCond .eq 54, 3) rfl) (by decide) (fun c100 => ?_) (fun c100 => ?_)
                            · skip
                              refine x_aload_n (dtk dt_X12_invert 83 (154, .aload_n 0, 1) rfl) rfl ?_
                              refine fg_X12_65 rfl (dtk dt_X12_invert 84 (155, .getfield 65, 3) rfl) (wk_36 hA.wf) (wm_36_26 (hA.off hs3).wf) ?_
                              refine x_iload (dtk dt_X12_invert 85 (158, .iload 5, 2) rfl) rfl ?_
                              refine x_iload (dtk dt_X12_invert 86 (160, .iload 6, 2) rfl) rfl ?_
                              refine x_iast (dtk dt_X12_invert 87 (162, .iastore, 1) rfl) (wk_54 hA.wf) ⟨by omega, by omega⟩ ?_
                              refine y_iinc (dtk dt_X12_invert 88 (163, .iinc 5 1, 3) rfl) rfl (by decide) ⟨by omega, by omega⟩ ?_
                              refine x_goto (tgt := 34) (dtk dt_X12_invert 89 (166, .goto (-132), 3) rfl) (by decide) ?_
                              refine MW.sub [1, 2, 3, 4, 5, 0] rfl ?_
                              exact ih34 _ (by omega) _ _ (by omega) (sc.st 54 rfl hs3) (fun i h0 h1 => by rw [invK_s h3.1]; unfold invC; first | (rw [if_neg c62]; exact hw3 i h0 h1) | (rw [if_pos (by omega)]; by_cases hq : i = v5; (focus (rw [hq, st2_self, if_pos rfl]; unfold invV; first | (rw [if_pos (h7 (by omega)), h6, show v7 = M 38 o by omega]; done) | (rw [if_neg (by rw [c100]; decide), h6, show v7 = 0 by (by_cases hz : v7 = 0; exact hz; (have := h7 (by omega); rw [c100] at this; cases this))]; rfl))); (rw [st2_o _ hq, if_neg hq]; exact hw3 i h0 h1))) rfl
                            · skip
                              refine x_iload (dtk dt_X12_invert 57 (103, .iload 6, 2) rfl) rfl ?_
                              refine x_aload_n (dtk dt_X12_invert 58 (105, .aload_n 0, 1) rfl) rfl ?_
                              refine x_iload_n (dtk dt_X12_invert 59 (106, .iload_n 1, 1) rfl) rfl ?_
                              refine x_iload (dtk dt_X12_invert 60 (107, .iload 7, 2) rfl) rfl ?_
                              refine x_iload (dtk dt_X12_invert 61 (109, .iload 5, 2) rfl) rfl ?_
                              refine kc_X12_86 rfl (dtk dt_X12_invert 62 (111, .invokevirtual 86, 3) rfl) (c_X12_isBelow (G := G)  (hA.off hs3) (by omega) (by omega)) rfl rfl (wk_36 hA.wf) (fitR (by decide) (by decide)) (Nat.le_of_ble_eq_true rfl) (pqK ?_)
                              refine x_if_eqB (tgt := 144) (dtk dt_X12_invert 63 (114, .ifCond .eq 30, 3) rfl) (by decide) (fun c114 => ?_) (fun c114 => ?_)
                              · skip
                                refine x_iconst (v := 0) ⟨by decide, by decide⟩ (dtk dt_X12_invert 78 (144, .iconst 0, 1) rfl) ?_
                                refine w_isub (dtk dt_X12_invert 79 (145, .isub, 1) rfl) ?_
                                refine x_istore (dtk dt_X12_invert 80 (146, .istore 6, 2) rfl) (by decide) ?_
                                refine y_iinc (dtk dt_X12_invert 81 (148, .iinc 7 1, 3) rfl) rfl (by decide) ⟨by omega, by omega⟩ ?_
                                refine x_goto (tgt := 81) (dtk dt_X12_invert 82 (151, .goto (-70), 3) rfl) (by decide) ?_
                                refine MW.sub [2, 3, 4, 5, 6, 7, 1, 0] rfl ?_
                                exact ih81 _ (by omega) _ _ (by omega) (by clear ih24 ih34 ih81; rw [foldZ_s h5.1, ← h6]; unfold invT; first | (rw [if_pos (by simp_all)]; done) | (rw [if_neg (by simp_all)]; done)) (fun _ => c100) rfl
                              · skip
                                refine x_iload (dtk dt_X12_invert 64 (117, .iload 7, 2) rfl) rfl ?_
                                refine x_iload_n (dtk dt_X12_invert 65 (119, .iload_n 2, 1) rfl) rfl ?_
                                refine x_icmp_eq (tgt := 134) (dtk dt_X12_invert 66 (120, .if_icmp .eq 14, 3) rfl) (by decide) (fun c120 => ?_) (fun c120 => ?_)
                                · skip
                                  refine x_aload_n (dtk dt_X12_invert 73 (134, .aload_n 0, 1) rfl) rfl ?_
                                  refine fg_X12_65 rfl (dtk dt_X12_invert 74 (135, .getfield 65, 3) rfl) (wk_36 hA.wf) (wm_36_26 (hA.off hs3).wf) ?_
                                  refine x_iload (dtk dt_X12_invert 75 (138, .iload 7, 2) rfl) rfl ?_
                                  refine x_iald (dtk dt_X12_invert 76 (140, .iaload, 1) rfl) (wk_54 hA.wf) ⟨by omega, by omega⟩ ?_
                                  rw [hw3 v7 (by omega) (by omega)]
                                  refine x_goto (tgt := 145) (dtk dt_X12_invert 77 (141, .goto 4, 3) rfl) (by decide) ?_
                                  refine w_isub (dtk dt_X12_invert 79 (145, .isub, 1) rfl) ?_
                                  refine x_istore (dtk dt_X12_invert 80 (146, .istore 6, 2) rfl) (by decide) ?_
                                  refine y_iinc (dtk dt_X12_invert 81 (148, .iinc 7 1, 3) rfl) rfl (by decide) ⟨by omega, by omega⟩ ?_
                                  refine x_goto (tgt := 81) (dtk dt_X12_invert 82 (151, .goto (-70), 3) rfl) (by decide) ?_
                                  refine MW.sub [2, 3, 4, 5, 6, 7, 1, 0] rfl ?_
                                  exact ih81 _ (by omega) _ _ (by omega) (by clear ih24 ih34 ih81; rw [foldZ_s h5.1, ← h6]; unfold invT; first | (rw [if_pos (by simp_all)]; done) | (rw [if_neg (by simp_all)]; done)) (fun _ => c100) rfl
                                · skip
                                  refine x_aload_n (dtk dt_X12_invert 67 (123, .aload_n 0, 1) rfl) rfl ?_
                                  refine x_iload_n (dtk dt_X12_invert 68 (124, .iload_n 1, 1) rfl) rfl ?_
                                  refine x_iload_n (dtk dt_X12_invert 69 (125, .iload_n 2, 1) rfl) rfl ?_
                                  refine x_iload (dtk dt_X12_invert 70 (126, .iload 7, 2) rfl) rfl ?_
                                  refine kc_X12_86 rfl (dtk dt_X12_invert 71 (128, .invokevirtual 86, 3) rfl) (c_X12_isBelow (G := G)  (hA.off hs3) (by omega) (by omega)) rfl rfl (wk_36 hA.wf) (fitR (by decide) (by decide)) (Nat.le_of_ble_eq_true rfl) (pqK ?_)
                                  refine x_if_eqB (tgt := 144) (dtk dt_X12_invert 72 (131, .ifCond .eq 13, 3) rfl) (by decide) (fun c131 => ?_) (fun c131 => ?_)
                                  · skip
                                    refine x_iconst (v := 0) ⟨by decide, by decide⟩ (dtk dt_X12_invert 78 (144, .iconst 0, 1) rfl) ?_
                                    refine w_isub (dtk dt_X12_invert 79 (145, .isub, 1) rfl) ?_
                                    refine x_istore (dtk dt_X12_invert 80 (146, .istore 6, 2) rfl) (by decide) ?_
                                    refine y_iinc (dtk dt_X12_invert 81 (148, .iinc 7 1, 3) rfl) rfl (by decide) ⟨by omega, by omega⟩ ?_
                                    refine x_goto (tgt := 81) (dtk dt_X12_invert 82 (151, .goto (-70), 3) rfl) (by decide) ?_
                                    refine MW.sub [2, 3, 4, 5, 6, 7, 1, 0] rfl ?_
                                    exact ih81 _ (by omega) _ _ (by omega) (by clear ih24 ih34 ih81; rw [foldZ_s h5.1, ← h6]; unfold invT; first | (rw [if_pos (by simp_all)]; done) | (rw [if_neg (by simp_all)]; done)) (fun _ => c100) rfl
                                  · skip
                                    refine x_aload_n (dtk dt_X12_invert 73 (134, .aload_n 0, 1) rfl) rfl ?_
                                    refine fg_X12_65 rfl (dtk dt_X12_invert 74 (135, .getfield 65, 3) rfl) (wk_36 hA.wf) (wm_36_26 (hA.off hs3).wf) ?_
                                    refine x_iload (dtk dt_X12_invert 75 (138, .iload 7, 2) rfl) rfl ?_
                                    refine x_iald (dtk dt_X12_invert 76 (140, .iaload, 1) rfl) (wk_54 hA.wf) ⟨by omega, by omega⟩ ?_
                                    rw [hw3 v7 (by omega) (by omega)]
                                    refine x_goto (tgt := 145) (dtk dt_X12_invert 77 (141, .goto 4, 3) rfl) (by decide) ?_
                                    refine w_isub (dtk dt_X12_invert 79 (145, .isub, 1) rfl) ?_
                                    refine x_istore (dtk dt_X12_invert 80 (146, .istore 6, 2) rfl) (by decide) ?_
                                    refine y_iinc (dtk dt_X12_invert 81 (148, .iinc 7 1, 3) rfl) rfl (by decide) ⟨by omega, by omega⟩ ?_
                                    refine x_goto (tgt := 81) (dtk dt_X12_invert 82 (151, .goto (-70), 3) rfl) (by decide) ?_
                                    refine MW.sub [2, 3, 4, 5, 6, 7, 1, 0] rfl ?_
                                    exact ih81 _ (by omega) _ _ (by omega) (by clear ih24 ih34 ih81; rw [foldZ_s h5.1, ← h6]; unfold invT; first | (rw [if_pos (by simp_all)]; done) | (rw [if_neg (by simp_all)]; done)) (fun _ => c100) rfl
                      refine MW.sub [2, 3, 4, 5, 6, 7, 1, 0] rfl ?_
                      exact L81 _ _ _ (by omega) (by rw [foldZ_0, hJ]) (fun q => by omega) rfl
                    refine x_iload (dtk dt_X12_invert 36 (65, .iload 5, 2) rfl) rfl ?_
                    refine x_iload_n (dtk dt_X12_invert 37 (67, .iload_n 2, 1) rfl) rfl ?_
                    refine x_icmp_ne (tgt := 75) (dtk dt_X12_invert 38 (68, .if_icmp .ne 7, 3) rfl) (by decide) (fun c68 => ?_) (fun c68 => ?_)
                    · skip
                      refine x_iconst (v := 0) ⟨by decide, by decide⟩ (dtk dt_X12_invert 41 (75, .iconst 0, 1) rfl) ?_
                      refine MW.sub [0, 1, 2, 3, 4, 5] rfl ?_
                      exact J76_20 false (by simp_all)
                    · skip
                      refine x_iconst (v := 1) ⟨by decide, by decide⟩ (dtk dt_X12_invert 39 (71, .iconst 1, 1) rfl) ?_
                      refine x_goto (tgt := 76) (dtk dt_X12_invert 40 (72, .goto 4, 3) rfl) (by decide) ?_
                      refine MW.sub [0, 1, 2, 3, 4, 5] rfl ?_
                      exact J76_20 true (by simp_all)
            refine MW.sub [1, 2, 3, 4, 5, 0] rfl ?_
            exact L34 _ _ _ (by omega) hs2 hw2 rfl
      refine MW.sub [1, 2, 3, 4, 0] rfl ?_
      exact L24 _ _ _ (by omega) sc.rf (fun i _ _ => rfl) rfl
    · skip
      refine x_ldc (v := -1000000) (dtk dt_X12_invert 10 (18, .ldc 218, 2) rfl) ⟨by decide, by decide⟩ (show Jvm.Cond.constant "HalfOrdersModel" 218 (Int32.ofInt (-1000000)) ∈ mw_tbl from by rw [show Int32.ofInt (-1000000) = (-1000000 : Int32) from by decide]; exact w1435) ?_
      exact rs_i (dtk dt_X12_invert 11 (20, .ireturn, 1) rfl) rfl (by first | (rw [c6]; rfl) | (rw [c15, Bool.and_false]; rfl)) sc.rf trivial
