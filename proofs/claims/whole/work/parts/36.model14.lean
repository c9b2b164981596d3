/-! ===== the model: places ===== -/
set_option maxRecDepth 100000 in
set_option maxHeartbeats 4000000 in
theorem c_X12_places {G : GG} {n : Nat} {K : KK} {M : MM} {o t : Int} (hm : MO K M) : MC G mi_X12_places 4 0 0 [(1, 36), (0, o), (0, t)] n K M (SQ (some (2, if isTh M o t then plS (M 38 o) (dM M o) t else -1)) n K M (fun _ => True)) := by
  refine MC.intro (lc := [(0, (1, 36)), (1, (0, o)), (2, (0, t))]) (by decide) rfl (by simp [Nat.ble]) (Nat.le_of_ble_eq_true rfl) rfl (fun hMR => ?_)
  refine x_aload_n (dtk dt_X12_places 0 (0, .aload_n 0, 1) rfl) rfl ?_
  refine x_iload_n (dtk dt_X12_places 1 (1, .iload_n 1, 1) rfl) rfl ?_
  refine x_iload_n (dtk dt_X12_places 2 (2, .iload_n 2, 1) rfl) rfl ?_
  refine kc_X12_110 rfl (dtk dt_X12_places 3 (3, .invokevirtual 110, 3) rfl) (c_X12_isThing (G := G)  hm) rfl rfl (wk_36 hm.1) (fitR (by decide) (by decide)) (Nat.le_of_ble_eq_true rfl) (pqK ?_)
  refine x_if_neB (tgt := 13) (dtk dt_X12_places 4 (6, .ifCond .ne 7, 3) rfl) (by decide) (fun c6 => ?_) (fun c6 => ?_)
  · skip
    have ht := isTh_of hm c6
    have hA : AT K M o (M 38 o) (dM M o) := ⟨hm, ht.1, rfl, rfl⟩
    have hsz := hA.ok.1
    have hp := p2_b hsz
    have htt : 0 ≤ t ∧ t < M 38 o := ⟨ht.2.1.1, ht.2.2.1⟩
    refine x_aload_n (dtk dt_X12_places 7 (13, .aload_n 0, 1) rfl) rfl ?_
    refine x_iload_n (dtk dt_X12_places 8 (14, .iload_n 1, 1) rfl) rfl ?_
    refine x_iconst (v := 0) ⟨by decide, by decide⟩ (dtk dt_X12_places 9 (15, .iconst 0, 1) rfl) ?_
    refine x_iconst (v := 0) ⟨by decide, by decide⟩ (dtk dt_X12_places 10 (16, .iconst 0, 1) rfl) ?_
    refine kc_X12_146 rfl (dtk dt_X12_places 11 (17, .invokevirtual 146, 3) rfl) (c_X12_layAll (G := G) (a := 0) (b := 0) hA (by omega)) rfl rfl (wk_36 hA.wf) (fitR (by decide) (by decide)) (Nat.le_of_ble_eq_true rfl) (sqK (fun M17_1 hs17_1 hE17_1 => ?_))
    have hE := hE17_1
    refine x_lconst (dtk dt_X12_places 12 (20, .lconst 0, 1) rfl) ?_
    refine x_lstore_n (dtk dt_X12_places 13 (21, .lstore_n 3, 1) rfl) (by decide) ?_
    refine x_iconst (v := 0) ⟨by decide, by decide⟩ (dtk dt_X12_places 14 (22, .iconst 0, 1) rfl) ?_
    refine x_istore (dtk dt_X12_places 15 (23, .istore 5, 2) rfl) (by decide) ?_
    have L25 : ∀ (fu : Nat) (v3 : Int) (v5 : Int), (0 ≤ v5 ∧ v5 ≤ p2 (M 38 o)) → (v3 = sumZ v5 (plV (M 38 o) (dM M o) t)) → (p2 (M 38 o) - v5).toNat = fu → MW G mi_X12_places (rmd 4 0 0) (MZ G (SQ (some (2, if isTh M o t then plS (M 38 o) (dM M o) t else -1)) n K M (fun _ => True)) 0 0) (0, 0) 25 [(0, (1, 36)), (1, (0, o)), (2, (0, t)), (3, (2, v3)), (5, (0, v5))] [] n K (M17_1) := by
      intro fu
      induction fu using Nat.strongRecOn with
      | ind fu ih25 =>
        intro v3 v5 h1 h2 hk25
        have hb := plS_b (d := dM M o) hsz htt h1
        rw [← h2] at hb
        refine x_iload (dtk dt_X12_places 16 (25, .iload 5, 2) rfl) rfl ?_
        refine x_iconst (v := 1) ⟨by decide, by decide⟩ (dtk dt_X12_places 17 (27, .iconst 1, 1) rfl) ?_
        refine x_aload_n (dtk dt_X12_places 18 (28, .aload_n 0, 1) rfl) rfl ?_
        refine fg_X12_13 rfl (dtk dt_X12_places 19 (29, .getfield 13, 3) rfl) (wk_36 hA.wf) (wm_36_2 (hA.off hs17_1).wf) ?_
        refine x_iload_n (dtk dt_X12_places 20 (32, .iload_n 1, 1) rfl) rfl ?_
        refine x_iald (dtk dt_X12_places 21 (33, .iaload, 1) rfl) (wk_38 hA.wf) ⟨by omega, by omega⟩ ?_
        rw [(hA.off hs17_1).sz]
        refine x_ishl (dtk dt_X12_places 22 (34, .ishl, 1) rfl) ?_
        change MW G _ _ _ _ _ _ ((0, p2 (M 38 o)) :: _) _ _ _
        refine x_icmp_ge (tgt := 92) (dtk dt_X12_places 23 (35, .if_icmp .ge 57, 3) rfl) (by decide) (fun c35 => ?_) (fun c35 => ?_)
        · skip
          refine x_lload_n (dtk dt_X12_places 58 (92, .lload_n 3, 1) rfl) rfl ?_
          exact rs_l (dtk dt_X12_places 59 (93, .lreturn, 1) rfl) rfl (by rw [if_pos c6, h2, show v5 = p2 (M 38 o) by omega]; rfl) hs17_1 trivial
        · skip
          have hcn := cnt_b v5
          have hpb := plV_b (d := dM M o) hsz htt (s := v5) (by omega)
          have hw5 := wy_b10 (d := dM M o) (a := 0) (b := 0) hsz (k := p2 (M 38 o)) (t := v5) (by omega) (by omega)
          have hpl := plus_in hsz (s := v5) (by omega) htt
          have hl5 := ly_b10 (d := dM M o) (a := 0) (b := 0) hsz hpl
          have hmu : 0 ≤ wyS (M 38 o) (dM M o) 0 0 (p2 (M 38 o)) v5 * lyF (M 38 o) (dM M o) 0 0 (plus v5 t) ∧ wyS (M 38 o) (dM M o) 0 0 (p2 (M 38 o)) v5 * lyF (M 38 o) (dM M o) 0 0 (plus v5 t) ≤ 3628800 * 3628800 := ⟨Int.mul_nonneg hw5.1 hl5.1, Int.mul_le_mul hw5.2 hl5.2 hl5.1 (by omega)⟩
          have hmu2 : 0 ≤ wyS (M 38 o) (dM M o) 0 0 (p2 (M 38 o)) v5 * lyF (M 38 o) (dM M o) 0 0 (plus v5 t) * cnt v5 ∧ wyS (M 38 o) (dM M o) 0 0 (p2 (M 38 o)) v5 * lyF (M 38 o) (dM M o) 0 0 (plus v5 t) * cnt v5 ≤ 3628800 * 3628800 * 10 := ⟨Int.mul_nonneg hmu.1 hcn.1, Int.mul_le_mul hmu.2 hcn.2 hcn.1 (by omega)⟩
          refine x_lload_n (dtk dt_X12_places 24 (38, .lload_n 3, 1) rfl) rfl ?_
          refine x_aload_n (dtk dt_X12_places 25 (39, .aload_n 0, 1) rfl) rfl ?_
          refine x_iload_n (dtk dt_X12_places 26 (40, .iload_n 1, 1) rfl) rfl ?_
          refine x_iload (dtk dt_X12_places 27 (41, .iload 5, 2) rfl) rfl ?_
          refine x_iload_n (dtk dt_X12_places 28 (43, .iload_n 2, 1) rfl) rfl ?_
          refine x_iconst (v := 0) ⟨by decide, by decide⟩ (dtk dt_X12_places 29 (44, .iconst 0, 1) rfl) ?_
          refine x_iconst (v := 0) ⟨by decide, by decide⟩ (dtk dt_X12_places 30 (45, .iconst 0, 1) rfl) ?_
          refine kc_X12_142 rfl (dtk dt_X12_places 31 (46, .invokevirtual 142, 3) rfl) (c_X12_may (G := G)  (hA.off hs17_1) ⟨by omega, by omega⟩ (by omega) (by omega)) rfl rfl (wk_36 hA.wf) (fitR (by decide) (by decide)) (Nat.le_of_ble_eq_true rfl) (pqK ?_)
          change MW G _ _ _ _ _ _ ((0, B (can (dM M o) v5 t)) :: _) _ _ _
          refine x_if_eqB (tgt := 83) (dtk dt_X12_places 32 (49, .ifCond .eq 34, 3) rfl) (by decide) (fun c49 => ?_) (fun c49 => ?_)
          · skip
            refine x_lconst (dtk dt_X12_places 53 (83, .lconst 0, 1) rfl) ?_
            refine x_ladd ⟨by omega, by omega⟩ (dtk dt_X12_places 54 (84, .ladd, 1) rfl) ?_
            refine x_lstore_n (dtk dt_X12_places 55 (85, .lstore_n 3, 1) rfl) (by decide) ?_
            refine y_iinc (dtk dt_X12_places 56 (86, .iinc 5 1, 3) rfl) rfl (by decide) ⟨by omega, by omega⟩ ?_
            refine x_goto (tgt := 25) (dtk dt_X12_places 57 (89, .goto (-64), 3) rfl) (by decide) ?_
            refine MW.sub [2, 3, 4, 1, 0] rfl ?_
            exact ih25 _ (by omega) _ _ (by omega) (by rw [sumZ_s h1.1, ← h2]; unfold plV; first | (rw [if_pos c49]; rfl) | (rw [if_neg (by rw [c49]; decide)]; rfl)) rfl
          · skip
            refine x_aload_n (dtk dt_X12_places 33 (52, .aload_n 0, 1) rfl) rfl ?_
            refine fg_X12_44 rfl (dtk dt_X12_places 34 (53, .getfield 44, 3) rfl) (wk_36 hA.wf) (wm_36_16 (hA.off hs17_1).wf) ?_
            refine x_iload (dtk dt_X12_places 35 (56, .iload 5, 2) rfl) rfl ?_
            refine x_iald (dtk dt_X12_places 36 (58, .iaload, 1) rfl) (wk_47 hA.wf) ⟨by omega, by omega⟩ ?_
            rw [hE.1 v5 (by omega) (by omega)]
            refine x_i2l (dtk dt_X12_places 37 (59, .i2l, 1) rfl) ?_
            refine x_aload_n (dtk dt_X12_places 38 (60, .aload_n 0, 1) rfl) rfl ?_
            refine fg_X12_47 rfl (dtk dt_X12_places 39 (61, .getfield 47, 3) rfl) (wk_36 hA.wf) (wm_36_17 (hA.off hs17_1).wf) ?_
            refine x_iload (dtk dt_X12_places 40 (64, .iload 5, 2) rfl) rfl ?_
            refine x_iconst (v := 1) ⟨by decide, by decide⟩ (dtk dt_X12_places 41 (66, .iconst 1, 1) rfl) ?_
            refine x_iload_n (dtk dt_X12_places 42 (67, .iload_n 2, 1) rfl) rfl ?_
            refine x_ishl (dtk dt_X12_places 43 (68, .ishl, 1) rfl) ?_
            refine x_ior (dtk dt_X12_places 44 (69, .ior, 1) rfl) ?_
            change MW G _ _ _ _ _ _ ((0, plus v5 t) :: _) _ _ _
            refine x_iald (dtk dt_X12_places 45 (70, .iaload, 1) rfl) (wk_48 hA.wf) ⟨by omega, by omega⟩ ?_
            rw [hE.2 _ hpl.1 hpl.2]
            refine x_i2l (dtk dt_X12_places 46 (71, .i2l, 1) rfl) ?_
            refine x_lmul ⟨by omega, by omega⟩ (dtk dt_X12_places 47 (72, .lmul, 1) rfl) ?_
            refine x_iload (dtk dt_X12_places 48 (73, .iload 5, 2) rfl) rfl ?_
            refine kc_X12_133 rfl (dtk dt_X12_places 49 (75, .invokestatic 133, 3) rfl) (c_X12_bits (G := G)  ⟨by omega, by omega⟩) rfl rfl (fitR (by decide) (by decide)) (Nat.le_of_ble_eq_true rfl) (pqK ?_)
            change MW G _ _ _ _ _ _ ((0, cnt v5) :: _) _ _ _
            refine x_i2l (dtk dt_X12_places 50 (78, .i2l, 1) rfl) ?_
            refine x_lmul ⟨by omega, by omega⟩ (dtk dt_X12_places 51 (79, .lmul, 1) rfl) ?_
            refine x_goto (tgt := 84) (dtk dt_X12_places 52 (80, .goto 4, 3) rfl) (by decide) ?_
            refine x_ladd ⟨by omega, by omega⟩ (dtk dt_X12_places 54 (84, .ladd, 1) rfl) ?_
            refine x_lstore_n (dtk dt_X12_places 55 (85, .lstore_n 3, 1) rfl) (by decide) ?_
            refine y_iinc (dtk dt_X12_places 56 (86, .iinc 5 1, 3) rfl) rfl (by decide) ⟨by omega, by omega⟩ ?_
            refine x_goto (tgt := 25) (dtk dt_X12_places 57 (89, .goto (-64), 3) rfl) (by decide) ?_
            refine MW.sub [2, 3, 4, 1, 0] rfl ?_
            exact ih25 _ (by omega) _ _ (by omega) (by rw [sumZ_s h1.1, ← h2]; unfold plV; first | (rw [if_pos c49]; rfl) | (rw [if_neg (by rw [c49]; decide)]; rfl)) rfl
    refine MW.sub [2, 3, 4, 1, 0] rfl ?_
    exact L25 _ _ _ (by omega) rfl rfl
  · skip
    refine x_ldc2 (v := -1) (dtk dt_X12_places 5 (9, .ldc2_w 155, 3) rfl) ⟨by decide, by decide⟩ (show Jvm.Cond.constantLong "HalfOrdersModel" 155 (Int64.ofInt (-1)) ∈ mw_tbl from by rw [show Int64.ofInt (-1) = (-1 : Int64) from by decide]; exact w1343) ?_
    exact rs_l (dtk dt_X12_places 6 (12, .lreturn, 1) rfl) rfl (by rw [c6]; rfl) sc.rf trivial
