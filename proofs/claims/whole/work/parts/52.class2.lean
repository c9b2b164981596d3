/-! ===== the class: questions of one order ===== -/
set_option maxRecDepth 100000 in
set_option maxHeartbeats 4000000 in
theorem c_X4_nextCount {G : GG} {n : Nat} {K : KK} {M : MM} {p nm m : Int} {ci : Nat} {d : Int → Int} (hO : OB K M p ci nm m d) : MC G mi_X4_nextCount 5 0 0 [(1, p)] n K M (PQ (some (0, nxs m d)) n K (M)) := by
  refine MC.intro (lc := [(0, (1, p))]) (by decide) rfl (by simp [Nat.ble]) (Nat.le_of_ble_eq_true rfl) rfl (fun hMR => ?_)
  have hsz := hO.sz
  refine x_iconst (v := 0) ⟨by decide, by decide⟩ (dtk dt_X4_nextCount 0 (0, .iconst 0, 1) rfl) ?_
  refine x_istore_n (dtk dt_X4_nextCount 1 (1, .istore_n 1, 1) rfl) (by decide) ?_
  refine x_iconst (v := 0) ⟨by decide, by decide⟩ (dtk dt_X4_nextCount 2 (2, .iconst 0, 1) rfl) ?_
  refine x_istore_n (dtk dt_X4_nextCount 3 (3, .istore_n 2, 1) rfl) (by decide) ?_
  have L4 : ∀ (fu : Nat) (v1 : Int) (v2 : Int), (0 ≤ v2 ∧ v2 ≤ m) → (v1 = sumZ v2 (fun a => sumZ m (fun b => B (nxt m d a b)))) → (m - v2).toNat = fu → MW G mi_X4_nextCount (rmd 5 0 0) (MZ G (PQ (some (0, nxs m d)) n K (M)) 0 0) (0, 0) 4 [(0, (1, p)), (1, (0, v1)), (2, (0, v2))] [] n K (M) := by
    intro fu
    induction fu using Nat.strongRecOn with
    | ind fu ih4 =>
      intro v1 v2 h1 h2 hk4
      have hb := sumZ_b (f := fun a => sumZ m (fun b => B (nxt m d a b))) (L := 10) h1.1 (fun c _ _ => by have := sumZ_b01 hsz.1 (nxt m d c); omega)
      rw [← h2] at hb
      refine x_iload_n (dtk dt_X4_nextCount 4 (4, .iload_n 2, 1) rfl) rfl ?_
      refine x_aload_n (dtk dt_X4_nextCount 5 (5, .aload_n 0, 1) rfl) rfl ?_
      refine fg_X4_34 rfl (dtk dt_X4_nextCount 6 (6, .getfield 34, 3) rfl) hO.k hO.c hO.n ?_
      refine x_icmp_ge (tgt := 46) (dtk dt_X4_nextCount 7 (9, .if_icmp .ge 37, 3) rfl) (by decide) (fun c9 => ?_) (fun c9 => ?_)
      · skip
        refine x_iload_n (dtk dt_X4_nextCount 24 (46, .iload_n 1, 1) rfl) rfl ?_
        exact r_i (dtk dt_X4_nextCount 25 (47, .ireturn, 1) rfl) rfl (by rw [h2, show v2 = m by omega]; rfl) rfl
      · skip
        refine x_iconst (v := 0) ⟨by decide, by decide⟩ (dtk dt_X4_nextCount 8 (12, .iconst 0, 1) rfl) ?_
        refine x_istore_n (dtk dt_X4_nextCount 9 (13, .istore_n 3, 1) rfl) (by decide) ?_
        have L14 : ∀ (fu : Nat) (w1 : Int) (v3 : Int), (0 ≤ v3 ∧ v3 ≤ m) → (w1 = v1 + sumZ v3 (fun b => B (nxt m d v2 b))) → (m - v3).toNat = fu → MW G mi_X4_nextCount (rmd 5 0 0) (MZ G (PQ (some (0, nxs m d)) n K (M)) 0 0) (0, 0) 14 [(0, (1, p)), (1, (0, w1)), (2, (0, v2)), (3, (0, v3))] [] n K (M) := by
          intro fu
          induction fu using Nat.strongRecOn with
          | ind fu ih14 =>
            intro w1 v3 h3 h4 hk14
            have hb2 := sumZ_b01 h3.1 (nxt m d v2)
            refine x_iload_n (dtk dt_X4_nextCount 10 (14, .iload_n 3, 1) rfl) rfl ?_
            refine x_aload_n (dtk dt_X4_nextCount 11 (15, .aload_n 0, 1) rfl) rfl ?_
            refine fg_X4_34 rfl (dtk dt_X4_nextCount 12 (16, .getfield 34, 3) rfl) hO.k hO.c hO.n ?_
            refine x_icmp_ge (tgt := 40) (dtk dt_X4_nextCount 13 (19, .if_icmp .ge 21, 3) rfl) (by decide) (fun c19 => ?_) (fun c19 => ?_)
            · skip
              refine y_iinc (dtk dt_X4_nextCount 22 (40, .iinc 2 1, 3) rfl) rfl (by decide) ⟨by omega, by omega⟩ ?_
              refine x_goto (tgt := 4) (dtk dt_X4_nextCount 23 (43, .goto (-39), 3) rfl) (by decide) ?_
              refine MW.sub [1, 2, 0] rfl ?_
              exact ih4 _ (by omega) _ _ (by omega) (by rw [sumZ_s (by omega), h4, h2, show v3 = m by omega]) rfl
            · skip
              refine x_aload_n (dtk dt_X4_nextCount 14 (22, .aload_n 0, 1) rfl) rfl ?_
              refine x_iload_n (dtk dt_X4_nextCount 15 (23, .iload_n 2, 1) rfl) rfl ?_
              refine x_iload_n (dtk dt_X4_nextCount 16 (24, .iload_n 3, 1) rfl) rfl ?_
              refine kc_X4_68 rfl (dtk dt_X4_nextCount 17 (25, .invokevirtual 68, 3) rfl) (c_X4_isNext (G := G)  hO (by omega) (by omega)) rfl rfl hO.k hO.c (fitR (by decide) (by decide)) (Nat.le_of_ble_eq_true rfl) (pqK ?_)
              refine x_if_eqB (tgt := 34) (dtk dt_X4_nextCount 18 (28, .ifCond .eq 6, 3) rfl) (by decide) (fun c28 => ?_) (fun c28 => ?_)
              · skip
                refine y_iinc (dtk dt_X4_nextCount 20 (34, .iinc 3 1, 3) rfl) rfl (by decide) ⟨by omega, by omega⟩ ?_
                refine x_goto (tgt := 14) (dtk dt_X4_nextCount 21 (37, .goto (-23), 3) rfl) (by decide) ?_
                refine MW.sub [1, 2, 3, 0] rfl ?_
                exact ih14 _ (by omega) _ _ (by omega) (by clear ih4 ih14; rw [sumZ_s (by omega)]; simp_all [B]; try omega) rfl
              · skip
                refine y_iinc (dtk dt_X4_nextCount 19 (31, .iinc 1 1, 3) rfl) rfl (by decide) ⟨by omega, by omega⟩ ?_
                refine y_iinc (dtk dt_X4_nextCount 20 (34, .iinc 3 1, 3) rfl) rfl (by decide) ⟨by omega, by omega⟩ ?_
                refine x_goto (tgt := 14) (dtk dt_X4_nextCount 21 (37, .goto (-23), 3) rfl) (by decide) ?_
                refine MW.sub [2, 1, 3, 0] rfl ?_
                exact ih14 _ (by omega) _ _ (by omega) (by clear ih4 ih14; rw [sumZ_s (by omega)]; simp_all [B]; try omega) rfl
        refine MW.sub [1, 2, 3, 0] rfl ?_
        exact L14 _ _ _ (by omega) (by rw [sumZ_0]; omega) rfl
  refine MW.sub [2, 1, 0] rfl ?_
  exact L4 _ _ _ (by omega) rfl rfl
set_option maxRecDepth 100000 in
set_option maxHeartbeats 4000000 in
theorem c_X4_leastOf {G : GG} {n : Nat} {K : KK} {M : MM} {s : Int} {p nm m : Int} {ci : Nat} {d : Int → Int} (hO : OB K M p ci nm m d) (hs : 0 ≤ s ∧ s < 1024) : MC G mi_X4_leastOf 1 0 0 [(1, p), (0, s)] n K M (PQ (some (0, lst m d s)) n K (M)) := by
  refine MC.intro (lc := [(0, (1, p)), (1, (0, s))]) (by decide) rfl (by simp [Nat.ble]) (Nat.le_of_ble_eq_true rfl) rfl (fun hMR => ?_)
  have hsz := hO.sz
  refine x_iconst (v := 0) ⟨by decide, by decide⟩ (dtk dt_X4_leastOf 0 (0, .iconst 0, 1) rfl) ?_
  refine x_istore_n (dtk dt_X4_leastOf 1 (1, .istore_n 2, 1) rfl) (by decide) ?_
  refine x_iconst (v := 0) ⟨by decide, by decide⟩ (dtk dt_X4_leastOf 2 (2, .iconst 0, 1) rfl) ?_
  refine x_istore_n (dtk dt_X4_leastOf 3 (3, .istore_n 3, 1) rfl) (by decide) ?_
  have L4 : ∀ (fu : Nat) (v2 : Int) (v3 : Int), (0 ≤ v3 ∧ v3 ≤ m) → (v2 = mk v3 (fun t => bt s t && dis (d t) s)) → (m - v3).toNat = fu → MW G mi_X4_leastOf (rmd 1 0 0) (MZ G (PQ (some (0, lst m d s)) n K (M)) 0 0) (0, 0) 4 [(0, (1, p)), (1, (0, s)), (2, (0, v2)), (3, (0, v3))] [] n K (M) := by
    intro fu
    induction fu using Nat.strongRecOn with
    | ind fu ih4 =>
      intro v2 v3 h1 h2 hk4
      refine x_iload_n (dtk dt_X4_leastOf 4 (4, .iload_n 3, 1) rfl) rfl ?_
      refine x_aload_n (dtk dt_X4_leastOf 5 (5, .aload_n 0, 1) rfl) rfl ?_
      refine fg_X4_34 rfl (dtk dt_X4_leastOf 6 (6, .getfield 34, 3) rfl) hO.k hO.c hO.n ?_
      refine x_icmp_ge (tgt := 43) (dtk dt_X4_leastOf 7 (9, .if_icmp .ge 34, 3) rfl) (by decide) (fun c9 => ?_) (fun c9 => ?_)
      · skip
        refine x_iload_n (dtk dt_X4_leastOf 29 (43, .iload_n 2, 1) rfl) rfl ?_
        exact r_i (dtk dt_X4_leastOf 30 (44, .ireturn, 1) rfl) rfl (by rw [h2, show v3 = m by omega]; rfl) rfl
      · skip
        refine x_iload_n (dtk dt_X4_leastOf 8 (12, .iload_n 1, 1) rfl) rfl ?_
        refine x_iload_n (dtk dt_X4_leastOf 9 (13, .iload_n 3, 1) rfl) rfl ?_
        refine x_ishr (dtk dt_X4_leastOf 10 (14, .ishr, 1) rfl) ?_
        refine x_iconst (v := 1) ⟨by decide, by decide⟩ (dtk dt_X4_leastOf 11 (15, .iconst 1, 1) rfl) ?_
        refine x_iand (dtk dt_X4_leastOf 12 (16, .iand, 1) rfl) ?_
        rw [zbit (nn10 hs) ⟨by omega, by omega⟩]
        change MW G _ _ _ _ _ _ ((0, B (bt (s) (v3))) :: _) _ _ _
        refine x_if_eqB (tgt := 37) (dtk dt_X4_leastOf 13 (17, .ifCond .eq 20, 3) rfl) (by decide) (fun c17 => ?_) (fun c17 => ?_)
        · skip
          refine y_iinc (dtk dt_X4_leastOf 27 (37, .iinc 3 1, 3) rfl) rfl (by decide) ⟨by omega, by omega⟩ ?_
          refine x_goto (tgt := 4) (dtk dt_X4_leastOf 28 (40, .goto (-36), 3) rfl) (by decide) ?_
          refine MW.sub [1, 2, 3, 0] rfl ?_
          exact ih4 _ (by omega) _ _ (by omega) (by clear ih4; rw [mk_s (by omega), ← h2]; unfold dis; simp_all) rfl
        · skip
          refine x_aload_n (dtk dt_X4_leastOf 14 (20, .aload_n 0, 1) rfl) rfl ?_
          refine fg_X4_9 rfl (dtk dt_X4_leastOf 15 (21, .getfield 9, 3) rfl) hO.k hO.c hO.dn ?_
          refine x_iload_n (dtk dt_X4_leastOf 16 (24, .iload_n 3, 1) rfl) rfl ?_
          refine x_iald (dtk dt_X4_leastOf 17 (25, .iaload, 1) rfl) hO.kd ⟨by omega, by omega⟩ ?_
          rw [hO.dat ⟨by omega, by omega⟩]
          refine x_iload_n (dtk dt_X4_leastOf 18 (26, .iload_n 1, 1) rfl) rfl ?_
          refine x_iand (dtk dt_X4_leastOf 19 (27, .iand, 1) rfl) ?_
          refine x_if_ne (tgt := 37) (dtk dt_X4_leastOf 20 (28, .ifCond .ne 9, 3) rfl) (by decide) (fun c28 => ?_) (fun c28 => ?_)
          · skip
            refine y_iinc (dtk dt_X4_leastOf 27 (37, .iinc 3 1, 3) rfl) rfl (by decide) ⟨by omega, by omega⟩ ?_
            refine x_goto (tgt := 4) (dtk dt_X4_leastOf 28 (40, .goto (-36), 3) rfl) (by decide) ?_
            refine MW.sub [1, 2, 3, 0] rfl ?_
            exact ih4 _ (by omega) _ _ (by omega) (by clear ih4; rw [mk_s (by omega), ← h2]; unfold dis; simp_all) rfl
          · skip
            refine x_iload_n (dtk dt_X4_leastOf 21 (31, .iload_n 2, 1) rfl) rfl ?_
            refine x_iconst (v := 1) ⟨by decide, by decide⟩ (dtk dt_X4_leastOf 22 (32, .iconst 1, 1) rfl) ?_
            refine x_iload_n (dtk dt_X4_leastOf 23 (33, .iload_n 3, 1) rfl) rfl ?_
            refine x_ishl (dtk dt_X4_leastOf 24 (34, .ishl, 1) rfl) ?_
            refine x_ior (dtk dt_X4_leastOf 25 (35, .ior, 1) rfl) ?_
            refine x_istore_n (dtk dt_X4_leastOf 26 (36, .istore_n 2, 1) rfl) (by decide) ?_
            refine y_iinc (dtk dt_X4_leastOf 27 (37, .iinc 3 1, 3) rfl) rfl (by decide) ⟨by omega, by omega⟩ ?_
            refine x_goto (tgt := 4) (dtk dt_X4_leastOf 28 (40, .goto (-36), 3) rfl) (by decide) ?_
            refine MW.sub [2, 3, 1, 0] rfl ?_
            exact ih4 _ (by omega) _ _ (by omega) (by clear ih4; rw [mk_s (by omega), ← h2]; unfold dis; simp_all) rfl
  refine MW.sub [2, 3, 1, 0] rfl ?_
  exact L4 _ _ _ (by omega) rfl rfl
set_option maxRecDepth 100000 in
set_option maxHeartbeats 4000000 in
theorem c_X4_layer {G : GG} {n : Nat} {K : KK} {M : MM} {t : Int} {p nm m : Int} {ci : Nat} {d : Int → Int} (hO : OB K M p ci nm m d) (ht : 0 ≤ t ∧ t < m) : MC G mi_X4_layer 2 0 0 [(1, p), (0, t)] n K M (PQ (some (0, layC m d t)) n K (M)) := by
  refine MC.intro (lc := [(0, (1, p)), (1, (0, t))]) (by decide) rfl (by simp [Nat.ble]) (Nat.le_of_ble_eq_true rfl) rfl (fun hMR => ?_)
  have hsz := hO.sz
  refine x_aload_n (dtk dt_X4_layer 0 (0, .aload_n 0, 1) rfl) rfl ?_
  refine kc_X4_71 rfl (dtk dt_X4_layer 1 (1, .invokevirtual 71, 3) rfl) (c_X4_all (G := G)  hO) rfl rfl hO.k hO.c (fitR (by decide) (by decide)) (Nat.le_of_ble_eq_true rfl) (pqK ?_)
  refine x_istore_n (dtk dt_X4_layer 2 (4, .istore_n 2, 1) rfl) (by decide) ?_
  refine x_iconst (v := 0) ⟨by decide, by decide⟩ (dtk dt_X4_layer 3 (5, .iconst 0, 1) rfl) ?_
  refine x_istore_n (dtk dt_X4_layer 4 (6, .istore_n 3, 1) rfl) (by decide) ?_
  have L7 : ∀ (fu : Nat) (v2 : Int) (v3 : Int), (0 ≤ v3 ∧ v3 ≤ m) → (v2 = lf m d v3) → (rs m (fun k => if bt (lst m d (lf m d k)) t then k else -1) v3 = layC m d t) → (m - v3).toNat = fu → MW G mi_X4_layer (rmd 2 0 0) (MZ G (PQ (some (0, layC m d t)) n K (M)) 0 0) (0, 0) 7 [(0, (1, p)), (1, (0, t)), (2, (0, v2)), (3, (0, v3))] [] n K (M) := by
    intro fu
    induction fu using Nat.strongRecOn with
    | ind fu ih7 =>
      intro v2 v3 h1 h2 h3 hk7
      have hlb := lf_b (d := d) hsz v3.toNat
      rw [show ((v3.toNat : Nat) : Int) = v3 by omega, ← h2] at hlb
      have hll := lst_b (d := d) (s := v2) hsz
      refine x_iload_n (dtk dt_X4_layer 5 (7, .iload_n 3, 1) rfl) rfl ?_
      refine x_aload_n (dtk dt_X4_layer 6 (8, .aload_n 0, 1) rfl) rfl ?_
      refine fg_X4_34 rfl (dtk dt_X4_layer 7 (9, .getfield 34, 3) rfl) hO.k hO.c hO.n ?_
      refine x_icmp_ge (tgt := 46) (dtk dt_X4_layer 8 (12, .if_icmp .ge 34, 3) rfl) (by decide) (fun c12 => ?_) (fun c12 => ?_)
      · skip
        refine x_iconst (v := -1) ⟨by decide, by decide⟩ (dtk dt_X4_layer 29 (46, .iconst (-1), 1) rfl) ?_
        exact r_i (dtk dt_X4_layer 30 (47, .ireturn, 1) rfl) rfl (by rw [rs_e (by omega)] at h3; exact h3) rfl
      · skip
        refine x_aload_n (dtk dt_X4_layer 9 (15, .aload_n 0, 1) rfl) rfl ?_
        refine x_iload_n (dtk dt_X4_layer 10 (16, .iload_n 2, 1) rfl) rfl ?_
        refine kc_X4_75 rfl (dtk dt_X4_layer 11 (17, .invokevirtual 75, 3) rfl) (c_X4_leastOf (G := G)  hO (by omega)) rfl rfl hO.k hO.c (fitR (by decide) (by decide)) (Nat.le_of_ble_eq_true rfl) (pqK ?_)
        refine x_istore (dtk dt_X4_layer 12 (20, .istore 4, 2) rfl) (by decide) ?_
        refine x_iload (dtk dt_X4_layer 13 (22, .iload 4, 2) rfl) rfl ?_
        refine x_iload_n (dtk dt_X4_layer 14 (24, .iload_n 1, 1) rfl) rfl ?_
        refine x_ishr (dtk dt_X4_layer 15 (25, .ishr, 1) rfl) ?_
        refine x_iconst (v := 1) ⟨by decide, by decide⟩ (dtk dt_X4_layer 16 (26, .iconst 1, 1) rfl) ?_
        refine x_iand (dtk dt_X4_layer 17 (27, .iand, 1) rfl) ?_
        rw [zbit (nn10 hll) ⟨by omega, by omega⟩]
        change MW G _ _ _ _ _ _ ((0, B (bt (lst m d v2) (t))) :: _) _ _ _
        refine x_if_eqB (tgt := 33) (dtk dt_X4_layer 18 (28, .ifCond .eq 5, 3) rfl) (by decide) (fun c28 => ?_) (fun c28 => ?_)
        · skip
          refine x_iload_n (dtk dt_X4_layer 21 (33, .iload_n 2, 1) rfl) rfl ?_
          refine x_iload (dtk dt_X4_layer 22 (34, .iload 4, 2) rfl) rfl ?_
          refine x_iconst (v := -1) ⟨by decide, by decide⟩ (dtk dt_X4_layer 23 (36, .iconst (-1), 1) rfl) ?_
          refine x_ixor (dtk dt_X4_layer 24 (37, .ixor, 1) rfl) ?_
          refine x_iand (dtk dt_X4_layer 25 (38, .iand, 1) rfl) ?_
          refine x_istore_n (dtk dt_X4_layer 26 (39, .istore_n 2, 1) rfl) (by decide) ?_
          refine y_iinc (dtk dt_X4_layer 27 (40, .iinc 3 1, 3) rfl) rfl (by decide) ⟨by omega, by omega⟩ ?_
          refine x_goto (tgt := 7) (dtk dt_X4_layer 28 (43, .goto (-36), 3) rfl) (by decide) ?_
          refine MW.sub [3, 4, 1, 0] rfl ?_
          exact ih7 _ (by omega) _ _ (by omega) (by rw [lf_s h1.1, ← h2]) (by rw [rs_s (by omega), ← h2, if_neg (by rw [c28]; decide), oe_m] at h3; exact h3) rfl
        · skip
          refine x_iload_n (dtk dt_X4_layer 19 (31, .iload_n 3, 1) rfl) rfl ?_
          exact r_i (dtk dt_X4_layer 20 (32, .ireturn, 1) rfl) rfl (by rw [rs_s (by omega), ← h2, if_pos c28, oe_n (by omega)] at h3; exact h3) rfl
  refine MW.sub [2, 3, 1, 0] rfl ?_
  exact L7 _ _ _ (by omega) rfl rfl rfl
set_option maxRecDepth 100000 in
set_option maxHeartbeats 4000000 in
theorem c_X4_height {G : GG} {n : Nat} {K : KK} {M : MM} {p nm m : Int} {ci : Nat} {d : Int → Int} (hO : OB K M p ci nm m d) : MC G mi_X4_height 2 0 0 [(1, p)] n K M (PQ (some (0, hgtC m d)) n K (M)) := by
  refine MC.intro (lc := [(0, (1, p))]) (by decide) rfl (by simp [Nat.ble]) (Nat.le_of_ble_eq_true rfl) rfl (fun hMR => ?_)
  have hsz := hO.sz
  refine x_aload_n (dtk dt_X4_height 0 (0, .aload_n 0, 1) rfl) rfl ?_
  refine kc_X4_71 rfl (dtk dt_X4_height 1 (1, .invokevirtual 71, 3) rfl) (c_X4_all (G := G)  hO) rfl rfl hO.k hO.c (fitR (by decide) (by decide)) (Nat.le_of_ble_eq_true rfl) (pqK ?_)
  refine x_istore_n (dtk dt_X4_height 2 (4, .istore_n 1, 1) rfl) (by decide) ?_
  refine x_iconst (v := 0) ⟨by decide, by decide⟩ (dtk dt_X4_height 3 (5, .iconst 0, 1) rfl) ?_
  refine x_istore_n (dtk dt_X4_height 4 (6, .istore_n 2, 1) rfl) (by decide) ?_
  have L7 : ∀ (fu : Nat) (v1 : Int) (v2 : Int), (0 ≤ v2 ∧ v2 ≤ m) → (v1 = lf m d v2) → (rs m (fun k => if lf m d k = 0 then k else -1) v2 = rs m (fun k => if lf m d k = 0 then k else -1) 0) → (m - v2).toNat = fu → MW G mi_X4_height (rmd 2 0 0) (MZ G (PQ (some (0, hgtC m d)) n K (M)) 0 0) (0, 0) 7 [(0, (1, p)), (1, (0, v1)), (2, (0, v2))] [] n K (M) := by
    intro fu
    induction fu using Nat.strongRecOn with
    | ind fu ih7 =>
      intro v1 v2 h1 h2 h3 hk7
      have hlb := lf_b (d := d) hsz v2.toNat
      rw [show ((v2.toNat : Nat) : Int) = v2 by omega, ← h2] at hlb
      refine x_iload_n (dtk dt_X4_height 5 (7, .iload_n 2, 1) rfl) rfl ?_
      refine x_aload_n (dtk dt_X4_height 6 (8, .aload_n 0, 1) rfl) rfl ?_
      refine fg_X4_34 rfl (dtk dt_X4_height 7 (9, .getfield 34, 3) rfl) hO.k hO.c hO.n ?_
      refine x_icmp_ge (tgt := 37) (dtk dt_X4_height 8 (12, .if_icmp .ge 25, 3) rfl) (by decide) (fun c12 => ?_) (fun c12 => ?_)
      · skip
        refine x_aload_n (dtk dt_X4_height 23 (37, .aload_n 0, 1) rfl) rfl ?_
        refine fg_X4_34 rfl (dtk dt_X4_height 24 (38, .getfield 34, 3) rfl) hO.k hO.c hO.n ?_
        exact r_i (dtk dt_X4_height 25 (41, .ireturn, 1) rfl) rfl (by unfold hgtC; rw [rs_e (by omega)] at h3; rw [if_pos h3.symm]) rfl
      · skip
        refine x_iload_n (dtk dt_X4_height 9 (15, .iload_n 1, 1) rfl) rfl ?_
        refine x_if_ne (tgt := 21) (dtk dt_X4_height 10 (16, .ifCond .ne 5, 3) rfl) (by decide) (fun c16 => ?_) (fun c16 => ?_)
        · skip
          refine x_iload_n (dtk dt_X4_height 13 (21, .iload_n 1, 1) rfl) rfl ?_
          refine x_aload_n (dtk dt_X4_height 14 (22, .aload_n 0, 1) rfl) rfl ?_
          refine x_iload_n (dtk dt_X4_height 15 (23, .iload_n 1, 1) rfl) rfl ?_
          refine kc_X4_75 rfl (dtk dt_X4_height 16 (24, .invokevirtual 75, 3) rfl) (c_X4_leastOf (G := G)  hO (by omega)) rfl rfl hO.k hO.c (fitR (by decide) (by decide)) (Nat.le_of_ble_eq_true rfl) (pqK ?_)
          refine x_iconst (v := -1) ⟨by decide, by decide⟩ (dtk dt_X4_height 17 (27, .iconst (-1), 1) rfl) ?_
          refine x_ixor (dtk dt_X4_height 18 (28, .ixor, 1) rfl) ?_
          refine x_iand (dtk dt_X4_height 19 (29, .iand, 1) rfl) ?_
          refine x_istore_n (dtk dt_X4_height 20 (30, .istore_n 1, 1) rfl) (by decide) ?_
          refine y_iinc (dtk dt_X4_height 21 (31, .iinc 2 1, 3) rfl) rfl (by decide) ⟨by omega, by omega⟩ ?_
          refine x_goto (tgt := 7) (dtk dt_X4_height 22 (34, .goto (-27), 3) rfl) (by decide) ?_
          refine MW.sub [2, 1, 0] rfl ?_
          exact ih7 _ (by omega) _ _ (by omega) (by rw [lf_s h1.1, ← h2]) (by rw [rs_s (by omega), ← h2, if_neg c16, oe_m] at h3; exact h3) rfl
        · skip
          refine x_iload_n (dtk dt_X4_height 11 (19, .iload_n 2, 1) rfl) rfl ?_
          exact r_i (dtk dt_X4_height 12 (20, .ireturn, 1) rfl) rfl (by unfold hgtC; rw [rs_s (by omega), ← h2, if_pos (by omega), oe_n (by omega)] at h3; rw [← h3, if_neg (by omega)]) rfl
  refine MW.sub [2, 1, 0] rfl ?_
  exact L7 _ _ _ (by omega) rfl rfl rfl
set_option maxRecDepth 100000 in
set_option maxHeartbeats 4000000 in
theorem c_X4_isAntichain {G : GG} {n : Nat} {K : KK} {M : MM} {s : Int} {p nm m : Int} {ci : Nat} {d : Int → Int} (hO : OB K M p ci nm m d) (hs : 0 ≤ s ∧ s < 1024) : MC G mi_X4_isAntichain 1 0 0 [(1, p), (0, s)] n K M (PQ (some (0, B (anti m d s))) n K (M)) := by
  refine MC.intro (lc := [(0, (1, p)), (1, (0, s))]) (by decide) rfl (by simp [Nat.ble]) (Nat.le_of_ble_eq_true rfl) rfl (fun hMR => ?_)
  have hsz := hO.sz
  refine x_iconst (v := 0) ⟨by decide, by decide⟩ (dtk dt_X4_isAntichain 0 (0, .iconst 0, 1) rfl) ?_
  refine x_istore_n (dtk dt_X4_isAntichain 1 (1, .istore_n 2, 1) rfl) (by decide) ?_
  have L2 : ∀ (fu : Nat) (v2 : Int), (0 ≤ v2 ∧ v2 ≤ m) → (allB v2 (fun a => !bt s a || dis (d a) s) = true) → (m - v2).toNat = fu → MW G mi_X4_isAntichain (rmd 1 0 0) (MZ G (PQ (some (0, B (anti m d s))) n K (M)) 0 0) (0, 0) 2 [(0, (1, p)), (1, (0, s)), (2, (0, v2))] [] n K (M) := by
    intro fu
    induction fu using Nat.strongRecOn with
    | ind fu ih2 =>
      intro v2 h1 h2 hk2
      refine x_iload_n (dtk dt_X4_isAntichain 2 (2, .iload_n 2, 1) rfl) rfl ?_
      refine x_aload_n (dtk dt_X4_isAntichain 3 (3, .aload_n 0, 1) rfl) rfl ?_
      refine fg_X4_34 rfl (dtk dt_X4_isAntichain 4 (4, .getfield 34, 3) rfl) hO.k hO.c hO.n ?_
      refine x_icmp_ge (tgt := 37) (dtk dt_X4_isAntichain 5 (7, .if_icmp .ge 30, 3) rfl) (by decide) (fun c7 => ?_) (fun c7 => ?_)
      · skip
        refine x_iconst (v := 1) ⟨by decide, by decide⟩ (dtk dt_X4_isAntichain 23 (37, .iconst 1, 1) rfl) ?_
        exact r_b (b := true) (dtk dt_X4_isAntichain 24 (38, .ireturn, 1) rfl) rfl (by rw [show v2 = m by omega] at h2; exact h2.symm) rfl
      · skip
        refine x_iload_n (dtk dt_X4_isAntichain 6 (10, .iload_n 1, 1) rfl) rfl ?_
        refine x_iload_n (dtk dt_X4_isAntichain 7 (11, .iload_n 2, 1) rfl) rfl ?_
        refine x_ishr (dtk dt_X4_isAntichain 8 (12, .ishr, 1) rfl) ?_
        refine x_iconst (v := 1) ⟨by decide, by decide⟩ (dtk dt_X4_isAntichain 9 (13, .iconst 1, 1) rfl) ?_
        refine x_iand (dtk dt_X4_isAntichain 10 (14, .iand, 1) rfl) ?_
        rw [zbit (nn10 hs) ⟨by omega, by omega⟩]
        change MW G _ _ _ _ _ _ ((0, B (bt (s) (v2))) :: _) _ _ _
        refine x_if_eqB (tgt := 31) (dtk dt_X4_isAntichain 11 (15, .ifCond .eq 16, 3) rfl) (by decide) (fun c15 => ?_) (fun c15 => ?_)
        · skip
          refine y_iinc (dtk dt_X4_isAntichain 21 (31, .iinc 2 1, 3) rfl) rfl (by decide) ⟨by omega, by omega⟩ ?_
          refine x_goto (tgt := 2) (dtk dt_X4_isAntichain 22 (34, .goto (-32), 3) rfl) (by decide) ?_
          refine MW.sub [1, 2, 0] rfl ?_
          exact ih2 _ (by omega) _ (by omega) (by clear ih2; rw [allB_s h1.1, h2]; unfold dis; simp_all) rfl
        · skip
          refine x_aload_n (dtk dt_X4_isAntichain 12 (18, .aload_n 0, 1) rfl) rfl ?_
          refine fg_X4_9 rfl (dtk dt_X4_isAntichain 13 (19, .getfield 9, 3) rfl) hO.k hO.c hO.dn ?_
          refine x_iload_n (dtk dt_X4_isAntichain 14 (22, .iload_n 2, 1) rfl) rfl ?_
          refine x_iald (dtk dt_X4_isAntichain 15 (23, .iaload, 1) rfl) hO.kd ⟨by omega, by omega⟩ ?_
          rw [hO.dat ⟨by omega, by omega⟩]
          refine x_iload_n (dtk dt_X4_isAntichain 16 (24, .iload_n 1, 1) rfl) rfl ?_
          refine x_iand (dtk dt_X4_isAntichain 17 (25, .iand, 1) rfl) ?_
          refine x_if_eq (tgt := 31) (dtk dt_X4_isAntichain 18 (26, .ifCond .eq 5, 3) rfl) (by decide) (fun c26 => ?_) (fun c26 => ?_)
          · skip
            refine y_iinc (dtk dt_X4_isAntichain 21 (31, .iinc 2 1, 3) rfl) rfl (by decide) ⟨by omega, by omega⟩ ?_
            refine x_goto (tgt := 2) (dtk dt_X4_isAntichain 22 (34, .goto (-32), 3) rfl) (by decide) ?_
            refine MW.sub [1, 2, 0] rfl ?_
            exact ih2 _ (by omega) _ (by omega) (by clear ih2; rw [allB_s h1.1, h2]; unfold dis; simp_all) rfl
          · skip
            refine x_iconst (v := 0) ⟨by decide, by decide⟩ (dtk dt_X4_isAntichain 19 (29, .iconst 0, 1) rfl) ?_
            exact r_b (b := false) (dtk dt_X4_isAntichain 20 (30, .ireturn, 1) rfl) rfl (by symm; rw [Bool.eq_false_iff]; intro hq; have hz := allB_iff.mp hq v2 h1.1 (by omega); unfold dis at hz; rw [c15, decide_eq_false c26] at hz; cases hz) rfl
  refine MW.sub [1, 2, 0] rfl ?_
  exact L2 _ _ (by omega) rfl rfl
set_option maxRecDepth 100000 in
set_option maxHeartbeats 4000000 in
theorem c_X4_isAheadOf {G : GG} {n : Nat} {K : KK} {M : MM} {s t : Int} (hs : 0 ≤ s ∧ s < 1024) (ht : 0 ≤ t ∧ t < 1024) : MC G mi_X4_isAheadOf 2 0 0 [(0, s), (0, t)] n K M (PQ (some (0, B (decide (0 < cnt s - cnt t) || (decide (cnt s - cnt t = 0) && ahd s t)))) n K (M)) := by
  refine MC.intro (lc := [(0, (0, s)), (1, (0, t))]) (by decide) rfl (by simp [Nat.ble]) (Nat.le_of_ble_eq_true rfl) rfl (fun hMR => ?_)
  have hx := nn_zxor (nn10 hs) (nn10 ht)
  have k1 := cnt_b s
  have k2 := cnt_b t
  refine x_iload_n (dtk dt_X4_isAheadOf 0 (0, .iload_n 0, 1) rfl) rfl ?_
  refine kc_X4_85 rfl (dtk dt_X4_isAheadOf 1 (1, .invokestatic 85, 3) rfl) (c_J6_bitCount_0f7a4 (G := G)  (by omega)) rfl rfl (fitR (by decide) (by decide)) (Nat.le_of_ble_eq_true rfl) (pqK ?_)
  refine x_iload_n (dtk dt_X4_isAheadOf 2 (4, .iload_n 1, 1) rfl) rfl ?_
  refine kc_X4_85 rfl (dtk dt_X4_isAheadOf 3 (5, .invokestatic 85, 3) rfl) (c_J6_bitCount_0f7a4 (G := G)  (by omega)) rfl rfl (fitR (by decide) (by decide)) (Nat.le_of_ble_eq_true rfl) (pqK ?_)
  refine y_isub (dtk dt_X4_isAheadOf 4 (8, .isub, 1) rfl) ⟨by omega, by omega⟩ ?_
  refine x_istore_n (dtk dt_X4_isAheadOf 5 (9, .istore_n 2, 1) rfl) (by decide) ?_
  refine x_iload_n (dtk dt_X4_isAheadOf 6 (10, .iload_n 0, 1) rfl) rfl ?_
  refine x_iload_n (dtk dt_X4_isAheadOf 7 (11, .iload_n 1, 1) rfl) rfl ?_
  refine x_ixor (dtk dt_X4_isAheadOf 8 (12, .ixor, 1) rfl) ?_
  refine x_istore_n (dtk dt_X4_isAheadOf 9 (13, .istore_n 3, 1) rfl) (by decide) ?_
  refine x_iload_n (dtk dt_X4_isAheadOf 10 (14, .iload_n 2, 1) rfl) rfl ?_
  refine x_if_gt (tgt := 31) (dtk dt_X4_isAheadOf 11 (15, .ifCond .gt 16, 3) rfl) (by decide) (fun c15 => ?_) (fun c15 => ?_)
  · skip
    refine x_iconst (v := 1) ⟨by decide, by decide⟩ (dtk dt_X4_isAheadOf 21 (31, .iconst 1, 1) rfl) ?_
    refine x_goto (tgt := 36) (dtk dt_X4_isAheadOf 22 (32, .goto 4, 3) rfl) (by decide) ?_
    exact r_b (b := true) (dtk dt_X4_isAheadOf 24 (36, .ireturn, 1) rfl) rfl (by unfold ahd; simp_all) rfl
  · skip
    refine x_iload_n (dtk dt_X4_isAheadOf 12 (18, .iload_n 2, 1) rfl) rfl ?_
    refine x_if_ne (tgt := 35) (dtk dt_X4_isAheadOf 13 (19, .ifCond .ne 16, 3) rfl) (by decide) (fun c19 => ?_) (fun c19 => ?_)
    · skip
      refine x_iconst (v := 0) ⟨by decide, by decide⟩ (dtk dt_X4_isAheadOf 23 (35, .iconst 0, 1) rfl) ?_
      exact r_b (b := false) (dtk dt_X4_isAheadOf 24 (36, .ireturn, 1) rfl) rfl (by unfold ahd; simp_all) rfl
    · skip
      refine x_iload_n (dtk dt_X4_isAheadOf 14 (22, .iload_n 0, 1) rfl) rfl ?_
      refine x_iload_n (dtk dt_X4_isAheadOf 15 (23, .iload_n 3, 1) rfl) rfl ?_
      refine x_iand (dtk dt_X4_isAheadOf 16 (24, .iand, 1) rfl) ?_
      refine x_iload_n (dtk dt_X4_isAheadOf 17 (25, .iload_n 3, 1) rfl) rfl ?_
      refine y_ineg (dtk dt_X4_isAheadOf 18 (26, .ineg, 1) rfl) ⟨by have := hx.2; omega, by have := hx.1; omega⟩ ?_
      refine x_iand (dtk dt_X4_isAheadOf 19 (27, .iand, 1) rfl) ?_
      rw [zand_ac]
      refine x_if_eq (tgt := 35) (dtk dt_X4_isAheadOf 20 (28, .ifCond .eq 7, 3) rfl) (by decide) (fun c28 => ?_) (fun c28 => ?_)
      · skip
        refine x_iconst (v := 0) ⟨by decide, by decide⟩ (dtk dt_X4_isAheadOf 23 (35, .iconst 0, 1) rfl) ?_
        exact r_b (b := false) (dtk dt_X4_isAheadOf 24 (36, .ireturn, 1) rfl) rfl (by unfold ahd; simp_all) rfl
      · skip
        refine x_iconst (v := 1) ⟨by decide, by decide⟩ (dtk dt_X4_isAheadOf 21 (31, .iconst 1, 1) rfl) ?_
        refine x_goto (tgt := 36) (dtk dt_X4_isAheadOf 22 (32, .goto 4, 3) rfl) (by decide) ?_
        exact r_b (b := true) (dtk dt_X4_isAheadOf 24 (36, .ireturn, 1) rfl) rfl (by unfold ahd; simp_all) rfl
set_option maxRecDepth 100000 in
set_option maxHeartbeats 4000000 in
theorem c_X4_widestBits {G : GG} {n : Nat} {K : KK} {M : MM} {p nm m : Int} {ci : Nat} {d : Int → Int} (hO : OB K M p ci nm m d) : MC G mi_X4_widestBits 3 0 0 [(1, p)] n K M (PQ (some (0, wide m d)) n K (M)) := by
  refine MC.intro (lc := [(0, (1, p))]) (by decide) rfl (by simp [Nat.ble]) (Nat.le_of_ble_eq_true rfl) rfl (fun hMR => ?_)
  have hsz := hO.sz
  have hp := p2_b hsz
  refine x_iconst (v := 0) ⟨by decide, by decide⟩ (dtk dt_X4_widestBits 0 (0, .iconst 0, 1) rfl) ?_
  refine x_istore_n (dtk dt_X4_widestBits 1 (1, .istore_n 1, 1) rfl) (by decide) ?_
  refine x_aload_n (dtk dt_X4_widestBits 2 (2, .aload_n 0, 1) rfl) rfl ?_
  refine kc_X4_71 rfl (dtk dt_X4_widestBits 3 (3, .invokevirtual 71, 3) rfl) (c_X4_all (G := G)  hO) rfl rfl hO.k hO.c (fitR (by decide) (by decide)) (Nat.le_of_ble_eq_true rfl) (pqK ?_)
  refine x_istore_n (dtk dt_X4_widestBits 4 (6, .istore_n 2, 1) rfl) (by decide) ?_
  refine x_iconst (v := 1) ⟨by decide, by decide⟩ (dtk dt_X4_widestBits 5 (7, .iconst 1, 1) rfl) ?_
  refine x_istore_n (dtk dt_X4_widestBits 6 (8, .istore_n 3, 1) rfl) (by decide) ?_
  have L9 : ∀ (fu : Nat) (v1 : Int) (v3 : Int), (1 ≤ v3 ∧ v3 ≤ p2 m) → (v1 = foldZ v3 (wstep m d) 0) → (p2 m - v3).toNat = fu → MW G mi_X4_widestBits (rmd 3 0 0) (MZ G (PQ (some (0, wide m d)) n K (M)) 0 0) (0, 0) 9 [(0, (1, p)), (1, (0, v1)), (2, (0, p2 m - 1)), (3, (0, v3))] [] n K (M) := by
    intro fu
    induction fu using Nat.strongRecOn with
    | ind fu ih9 =>
      intro v1 v3 h1 h2 hk9
      have hb := wide_b (d := d) hsz v3 h1.2
      rw [← h2] at hb
      refine x_iload_n (dtk dt_X4_widestBits 7 (9, .iload_n 3, 1) rfl) rfl ?_
      refine x_iload_n (dtk dt_X4_widestBits 8 (10, .iload_n 2, 1) rfl) rfl ?_
      refine x_icmp_gt (tgt := 38) (dtk dt_X4_widestBits 9 (11, .if_icmp .gt 27, 3) rfl) (by decide) (fun c11 => ?_) (fun c11 => ?_)
      · skip
        refine x_iload_n (dtk dt_X4_widestBits 22 (38, .iload_n 1, 1) rfl) rfl ?_
        exact r_i (dtk dt_X4_widestBits 23 (39, .ireturn, 1) rfl) rfl (by rw [h2, show v3 = p2 m by omega]; rfl) rfl
      · skip
        refine x_iload_n (dtk dt_X4_widestBits 10 (14, .iload_n 3, 1) rfl) rfl ?_
        refine x_iload_n (dtk dt_X4_widestBits 11 (15, .iload_n 1, 1) rfl) rfl ?_
        refine kc_X4_79 rfl (dtk dt_X4_widestBits 12 (16, .invokestatic 79, 3) rfl) (c_X4_isAheadOf (G := G)  (by omega) (by omega)) rfl rfl (fitR (by decide) (by decide)) (Nat.le_of_ble_eq_true rfl) (pqK ?_)
        refine x_if_eqB (tgt := 32) (dtk dt_X4_widestBits 13 (19, .ifCond .eq 13, 3) rfl) (by decide) (fun c19 => ?_) (fun c19 => ?_)
        · skip
          refine y_iinc (dtk dt_X4_widestBits 20 (32, .iinc 3 1, 3) rfl) rfl (by decide) ⟨by omega, by omega⟩ ?_
          refine x_goto (tgt := 9) (dtk dt_X4_widestBits 21 (35, .goto (-26), 3) rfl) (by decide) ?_
          refine MW.sub [1, 2, 3, 0] rfl ?_
          exact ih9 _ (by omega) _ _ (by omega) (by rw [foldZ_s (by omega), ← h2]; unfold wstep; first | (rw [if_pos (by rw [c27, c19]; rfl)]; done) | (rw [if_neg (by rw [c27]; simp)]; done) | (rw [if_neg (by rw [c19]; simp)])) rfl
        · skip
          refine x_aload_n (dtk dt_X4_widestBits 14 (22, .aload_n 0, 1) rfl) rfl ?_
          refine x_iload_n (dtk dt_X4_widestBits 15 (23, .iload_n 3, 1) rfl) rfl ?_
          refine kc_X4_82 rfl (dtk dt_X4_widestBits 16 (24, .invokevirtual 82, 3) rfl) (c_X4_isAntichain (G := G)  hO (by omega)) rfl rfl hO.k hO.c (fitR (by decide) (by decide)) (Nat.le_of_ble_eq_true rfl) (pqK ?_)
          refine x_if_eqB (tgt := 32) (dtk dt_X4_widestBits 17 (27, .ifCond .eq 5, 3) rfl) (by decide) (fun c27 => ?_) (fun c27 => ?_)
          · skip
            refine y_iinc (dtk dt_X4_widestBits 20 (32, .iinc 3 1, 3) rfl) rfl (by decide) ⟨by omega, by omega⟩ ?_
            refine x_goto (tgt := 9) (dtk dt_X4_widestBits 21 (35, .goto (-26), 3) rfl) (by decide) ?_
            refine MW.sub [1, 2, 3, 0] rfl ?_
            exact ih9 _ (by omega) _ _ (by omega) (by rw [foldZ_s (by omega), ← h2]; unfold wstep; first | (rw [if_pos (by rw [c27, c19]; rfl)]; done) | (rw [if_neg (by rw [c27]; simp)]; done) | (rw [if_neg (by rw [c19]; simp)])) rfl
          · skip
            refine x_iload_n (dtk dt_X4_widestBits 18 (30, .iload_n 3, 1) rfl) rfl ?_
            refine x_istore_n (dtk dt_X4_widestBits 19 (31, .istore_n 1, 1) rfl) (by decide) ?_
            refine y_iinc (dtk dt_X4_widestBits 20 (32, .iinc 3 1, 3) rfl) rfl (by decide) ⟨by omega, by omega⟩ ?_
            refine x_goto (tgt := 9) (dtk dt_X4_widestBits 21 (35, .goto (-26), 3) rfl) (by decide) ?_
            refine MW.sub [2, 1, 3, 0] rfl ?_
            exact ih9 _ (by omega) _ _ (by omega) (by rw [foldZ_s (by omega), ← h2]; unfold wstep; first | (rw [if_pos (by rw [c27, c19]; rfl)]; done) | (rw [if_neg (by rw [c27]; simp)]; done) | (rw [if_neg (by rw [c19]; simp)])) rfl
  refine MW.sub [3, 2, 1, 0] rfl ?_
  exact L9 _ _ _ (by omega) fold1_0.symm rfl
set_option maxRecDepth 100000 in
set_option maxHeartbeats 4000000 in
theorem c_X4_allNextOver {G : GG} {n : Nat} {K : KK} {M : MM} {s : Int} {p nm m : Int} {ci : Nat} {d : Int → Int} (hO : OB K M p ci nm m d) (hs : 0 ≤ s ∧ s < 1024) : MC G mi_X4_allNextOver 5 0 0 [(1, p), (0, s)] n K M (PQ (some (0, nov m d s)) n K (M)) := by
  refine MC.intro (lc := [(0, (1, p)), (1, (0, s))]) (by decide) rfl (by simp [Nat.ble]) (Nat.le_of_ble_eq_true rfl) rfl (fun hMR => ?_)
  have hsz := hO.sz
  refine x_iconst (v := 0) ⟨by decide, by decide⟩ (dtk dt_X4_allNextOver 0 (0, .iconst 0, 1) rfl) ?_
  refine x_istore_n (dtk dt_X4_allNextOver 1 (1, .istore_n 2, 1) rfl) (by decide) ?_
  refine x_iconst (v := 0) ⟨by decide, by decide⟩ (dtk dt_X4_allNextOver 2 (2, .iconst 0, 1) rfl) ?_
  refine x_istore_n (dtk dt_X4_allNextOver 3 (3, .istore_n 3, 1) rfl) (by decide) ?_
  have L4 : ∀ (fu : Nat) (v2 : Int) (v3 : Int), (0 ≤ v3 ∧ v3 ≤ m) → (v2 = mk m (fun b => exB v3 (fun a => bt s a && nxt m d a b))) → (m - v3).toNat = fu → MW G mi_X4_allNextOver (rmd 5 0 0) (MZ G (PQ (some (0, nov m d s)) n K (M)) 0 0) (0, 0) 4 [(0, (1, p)), (1, (0, s)), (2, (0, v2)), (3, (0, v3))] [] n K (M) := by
    intro fu
    induction fu using Nat.strongRecOn with
    | ind fu ih4 =>
      intro v2 v3 h1 h2 hk4
      refine x_iload_n (dtk dt_X4_allNextOver 4 (4, .iload_n 3, 1) rfl) rfl ?_
      refine x_aload_n (dtk dt_X4_allNextOver 5 (5, .aload_n 0, 1) rfl) rfl ?_
      refine fg_X4_34 rfl (dtk dt_X4_allNextOver 6 (6, .getfield 34, 3) rfl) hO.k hO.c hO.n ?_
      refine x_icmp_ge (tgt := 61) (dtk dt_X4_allNextOver 7 (9, .if_icmp .ge 52, 3) rfl) (by decide) (fun c9 => ?_) (fun c9 => ?_)
      · skip
        refine x_iload_n (dtk dt_X4_allNextOver 35 (61, .iload_n 2, 1) rfl) rfl ?_
        exact r_i (dtk dt_X4_allNextOver 36 (62, .ireturn, 1) rfl) rfl (by rw [h2, show v3 = m by omega]; rfl) rfl
      · skip
        refine x_iconst (v := 0) ⟨by decide, by decide⟩ (dtk dt_X4_allNextOver 8 (12, .iconst 0, 1) rfl) ?_
        refine x_istore (dtk dt_X4_allNextOver 9 (13, .istore 4, 2) rfl) (by decide) ?_
        have L15 : ∀ (fu : Nat) (w2 : Int) (v4 : Int), (0 ≤ v4 ∧ v4 ≤ m) → (w2 = mk m (fun b => exB v3 (fun a => bt s a && nxt m d a b) || (decide (b < v4) && (bt s v3 && nxt m d v3 b)))) → (m - v4).toNat = fu → MW G mi_X4_allNextOver (rmd 5 0 0) (MZ G (PQ (some (0, nov m d s)) n K (M)) 0 0) (0, 0) 15 [(0, (1, p)), (1, (0, s)), (2, (0, w2)), (3, (0, v3)), (4, (0, v4))] [] n K (M) := by
          intro fu
          induction fu using Nat.strongRecOn with
          | ind fu ih15 =>
            intro w2 v4 h3 h4 hk15
            refine x_iload (dtk dt_X4_allNextOver 10 (15, .iload 4, 2) rfl) rfl ?_
            refine x_aload_n (dtk dt_X4_allNextOver 11 (17, .aload_n 0, 1) rfl) rfl ?_
            refine fg_X4_34 rfl (dtk dt_X4_allNextOver 12 (18, .getfield 34, 3) rfl) hO.k hO.c hO.n ?_
            refine x_icmp_ge (tgt := 55) (dtk dt_X4_allNextOver 13 (21, .if_icmp .ge 34, 3) rfl) (by decide) (fun c21 => ?_) (fun c21 => ?_)
            · skip
              refine y_iinc (dtk dt_X4_allNextOver 33 (55, .iinc 3 1, 3) rfl) rfl (by decide) ⟨by omega, by omega⟩ ?_
              refine x_goto (tgt := 4) (dtk dt_X4_allNextOver 34 (58, .goto (-54), 3) rfl) (by decide) ?_
              refine MW.sub [1, 2, 3, 0] rfl ?_
              exact ih4 _ (by omega) _ _ (by omega) (by rw [h4]; exact mk_congr (fun b b0 b1 => by rw [exB_s h1.1, decide_eq_true (show b < v4 by omega)]; simp)) rfl
            · skip
              refine x_iload_n (dtk dt_X4_allNextOver 14 (24, .iload_n 1, 1) rfl) rfl ?_
              refine x_iload_n (dtk dt_X4_allNextOver 15 (25, .iload_n 3, 1) rfl) rfl ?_
              refine x_ishr (dtk dt_X4_allNextOver 16 (26, .ishr, 1) rfl) ?_
              refine x_iconst (v := 1) ⟨by decide, by decide⟩ (dtk dt_X4_allNextOver 17 (27, .iconst 1, 1) rfl) ?_
              refine x_iand (dtk dt_X4_allNextOver 18 (28, .iand, 1) rfl) ?_
              rw [zbit (nn10 hs) ⟨by omega, by omega⟩]
              change MW G _ _ _ _ _ _ ((0, B (bt (s) (v3))) :: _) _ _ _
              refine x_if_eqB (tgt := 49) (dtk dt_X4_allNextOver 19 (29, .ifCond .eq 20, 3) rfl) (by decide) (fun c29 => ?_) (fun c29 => ?_)
              · skip
                refine y_iinc (dtk dt_X4_allNextOver 31 (49, .iinc 4 1, 3) rfl) rfl (by decide) ⟨by omega, by omega⟩ ?_
                refine x_goto (tgt := 15) (dtk dt_X4_allNextOver 32 (52, .goto (-37), 3) rfl) (by decide) ?_
                refine MW.sub [1, 2, 3, 4, 0] rfl ?_
                exact ih15 _ (by omega) _ _ (by omega) (by rw [h4]; first | (rw [mk_or hsz.2 ⟨h3.1, by omega⟩]; exact mk_congr (fun b b0 b1 => by by_cases hq : b = v4; (rw [hq, c29, c39, decide_eq_true (show v4 < v4 + 1 by omega)]; simp); (rw [decide_eq_false hq, show decide (b < v4 + 1) = decide (b < v4) from by (rw [decide_eq_decide]; omega)]; simp))) | exact mk_congr (fun b b0 b1 => by by_cases hq : b = v4; (rw [hq, decide_eq_false (show ¬ v4 < v4 by omega)]; simp_all); (rw [show decide (b < v4 + 1) = decide (b < v4) from by (rw [decide_eq_decide]; omega)]))) rfl
              · skip
                refine x_aload_n (dtk dt_X4_allNextOver 20 (32, .aload_n 0, 1) rfl) rfl ?_
                refine x_iload_n (dtk dt_X4_allNextOver 21 (33, .iload_n 3, 1) rfl) rfl ?_
                refine x_iload (dtk dt_X4_allNextOver 22 (34, .iload 4, 2) rfl) rfl ?_
                refine kc_X4_68 rfl (dtk dt_X4_allNextOver 23 (36, .invokevirtual 68, 3) rfl) (c_X4_isNext (G := G)  hO (by omega) (by omega)) rfl rfl hO.k hO.c (fitR (by decide) (by decide)) (Nat.le_of_ble_eq_true rfl) (pqK ?_)
                refine x_if_eqB (tgt := 49) (dtk dt_X4_allNextOver 24 (39, .ifCond .eq 10, 3) rfl) (by decide) (fun c39 => ?_) (fun c39 => ?_)
                · skip
                  refine y_iinc (dtk dt_X4_allNextOver 31 (49, .iinc 4 1, 3) rfl) rfl (by decide) ⟨by omega, by omega⟩ ?_
                  refine x_goto (tgt := 15) (dtk dt_X4_allNextOver 32 (52, .goto (-37), 3) rfl) (by decide) ?_
                  refine MW.sub [1, 2, 3, 4, 0] rfl ?_
                  exact ih15 _ (by omega) _ _ (by omega) (by rw [h4]; first | (rw [mk_or hsz.2 ⟨h3.1, by omega⟩]; exact mk_congr (fun b b0 b1 => by by_cases hq : b = v4; (rw [hq, c29, c39, decide_eq_true (show v4 < v4 + 1 by omega)]; simp); (rw [decide_eq_false hq, show decide (b < v4 + 1) = decide (b < v4) from by (rw [decide_eq_decide]; omega)]; simp))) | exact mk_congr (fun b b0 b1 => by by_cases hq : b = v4; (rw [hq, decide_eq_false (show ¬ v4 < v4 by omega)]; simp_all); (rw [show decide (b < v4 + 1) = decide (b < v4) from by (rw [decide_eq_decide]; omega)]))) rfl
                · skip
                  refine x_iload_n (dtk dt_X4_allNextOver 25 (42, .iload_n 2, 1) rfl) rfl ?_
                  refine x_iconst (v := 1) ⟨by decide, by decide⟩ (dtk dt_X4_allNextOver 26 (43, .iconst 1, 1) rfl) ?_
                  refine x_iload (dtk dt_X4_allNextOver 27 (44, .iload 4, 2) rfl) rfl ?_
                  refine x_ishl (dtk dt_X4_allNextOver 28 (46, .ishl, 1) rfl) ?_
                  refine x_ior (dtk dt_X4_allNextOver 29 (47, .ior, 1) rfl) ?_
                  refine x_istore_n (dtk dt_X4_allNextOver 30 (48, .istore_n 2, 1) rfl) (by decide) ?_
                  refine y_iinc (dtk dt_X4_allNextOver 31 (49, .iinc 4 1, 3) rfl) rfl (by decide) ⟨by omega, by omega⟩ ?_
                  refine x_goto (tgt := 15) (dtk dt_X4_allNextOver 32 (52, .goto (-37), 3) rfl) (by decide) ?_
                  refine MW.sub [2, 3, 1, 4, 0] rfl ?_
                  exact ih15 _ (by omega) _ _ (by omega) (by rw [h4]; first | (rw [mk_or hsz.2 ⟨h3.1, by omega⟩]; exact mk_congr (fun b b0 b1 => by by_cases hq : b = v4; (rw [hq, c29, c39, decide_eq_true (show v4 < v4 + 1 by omega)]; simp); (rw [decide_eq_false hq, show decide (b < v4 + 1) = decide (b < v4) from by (rw [decide_eq_decide]; omega)]; simp))) | exact mk_congr (fun b b0 b1 => by by_cases hq : b = v4; (rw [hq, decide_eq_false (show ¬ v4 < v4 by omega)]; simp_all); (rw [show decide (b < v4 + 1) = decide (b < v4) from by (rw [decide_eq_decide]; omega)]))) rfl
        refine MW.sub [1, 2, 3, 4, 0] rfl ?_
        exact L15 _ _ _ (by omega) (by rw [h2]; exact mk_congr (fun b b0 b1 => by rw [decide_eq_false (show ¬ b < 0 by omega)]; simp)) rfl
  refine MW.sub [2, 3, 1, 0] rfl ?_
  exact L4 _ _ _ (by omega) (mk_none m).symm rfl
set_option maxRecDepth 100000 in
set_option maxHeartbeats 4000000 in
theorem c_X4_stepsTo {G : GG} {n : Nat} {K : KK} {M : MM} {x y : Int} {p nm m : Int} {ci : Nat} {d : Int → Int} (hO : OB K M p ci nm m d) (hx : 0 ≤ x ∧ x < m) (hy : 0 ≤ y ∧ y < m) : MC G mi_X4_stepsTo 6 0 0 [(1, p), (0, x), (0, y)] n K M (PQ (some (0, dst m d x y)) n K (M)) := by
  refine MC.intro (lc := [(0, (1, p)), (1, (0, x)), (2, (0, y))]) (by decide) rfl (by simp [Nat.ble]) (Nat.le_of_ble_eq_true rfl) rfl (fun hMR => ?_)
  have hsz := hO.sz
  refine x_iconst (v := 1) ⟨by decide, by decide⟩ (dtk dt_X4_stepsTo 0 (0, .iconst 1, 1) rfl) ?_
  refine x_iload_n (dtk dt_X4_stepsTo 1 (1, .iload_n 1, 1) rfl) rfl ?_
  refine x_ishl (dtk dt_X4_stepsTo 2 (2, .ishl, 1) rfl) ?_
  refine x_istore_n (dtk dt_X4_stepsTo 3 (3, .istore_n 3, 1) rfl) (by decide) ?_
  refine x_iconst (v := 0) ⟨by decide, by decide⟩ (dtk dt_X4_stepsTo 4 (4, .iconst 0, 1) rfl) ?_
  refine x_istore (dtk dt_X4_stepsTo 5 (5, .istore 4, 2) rfl) (by decide) ?_
  have L7 : ∀ (fu : Nat) (v3 : Int) (v4 : Int), (0 ≤ v4 ∧ v4 ≤ m) → (v3 = rch m d x v4) → (rs m (fun k => if wkN m d k.toNat x y then k else -1) v4 = dst m d x y) → (m - v4).toNat = fu → MW G mi_X4_stepsTo (rmd 6 0 0) (MZ G (PQ (some (0, dst m d x y)) n K (M)) 0 0) (0, 0) 7 [(0, (1, p)), (1, (0, x)), (2, (0, y)), (3, (0, v3)), (4, (0, v4))] [] n K (M) := by
    intro fu
    induction fu using Nat.strongRecOn with
    | ind fu ih7 =>
      intro v3 v4 h1 h2 h3 hk7
      have hrb := rch_b (d := d) (x := x) (k := v4) hsz
      rw [← h2] at hrb
      refine x_iload (dtk dt_X4_stepsTo 6 (7, .iload 4, 2) rfl) rfl ?_
      refine x_aload_n (dtk dt_X4_stepsTo 7 (9, .aload_n 0, 1) rfl) rfl ?_
      refine fg_X4_34 rfl (dtk dt_X4_stepsTo 8 (10, .getfield 34, 3) rfl) hO.k hO.c hO.n ?_
      refine x_icmp_ge (tgt := 39) (dtk dt_X4_stepsTo 9 (13, .if_icmp .ge 26, 3) rfl) (by decide) (fun c13 => ?_) (fun c13 => ?_)
      · skip
        refine x_iconst (v := -1) ⟨by decide, by decide⟩ (dtk dt_X4_stepsTo 24 (39, .iconst (-1), 1) rfl) ?_
        exact r_i (dtk dt_X4_stepsTo 25 (40, .ireturn, 1) rfl) rfl (by rw [rs_e (by omega)] at h3; exact h3) rfl
      · skip
        refine x_iload_n (dtk dt_X4_stepsTo 10 (16, .iload_n 3, 1) rfl) rfl ?_
        refine x_iload_n (dtk dt_X4_stepsTo 11 (17, .iload_n 2, 1) rfl) rfl ?_
        refine x_ishr (dtk dt_X4_stepsTo 12 (18, .ishr, 1) rfl) ?_
        refine x_iconst (v := 1) ⟨by decide, by decide⟩ (dtk dt_X4_stepsTo 13 (19, .iconst 1, 1) rfl) ?_
        refine x_iand (dtk dt_X4_stepsTo 14 (20, .iand, 1) rfl) ?_
        rw [zbit (nn10 hrb) ⟨by omega, by omega⟩]
        change MW G _ _ _ _ _ _ ((0, B (bt (v3) (y))) :: _) _ _ _
        refine x_if_eqB (tgt := 27) (dtk dt_X4_stepsTo 15 (21, .ifCond .eq 6, 3) rfl) (by decide) (fun c21 => ?_) (fun c21 => ?_)
        · skip
          refine x_aload_n (dtk dt_X4_stepsTo 18 (27, .aload_n 0, 1) rfl) rfl ?_
          refine x_iload_n (dtk dt_X4_stepsTo 19 (28, .iload_n 3, 1) rfl) rfl ?_
          refine kc_X4_100 rfl (dtk dt_X4_stepsTo 20 (29, .invokevirtual 100, 3) rfl) (c_X4_allNextOver (G := G)  hO (by omega)) rfl rfl hO.k hO.c (fitR (by decide) (by decide)) (Nat.le_of_ble_eq_true rfl) (pqK ?_)
          refine x_istore_n (dtk dt_X4_stepsTo 21 (32, .istore_n 3, 1) rfl) (by decide) ?_
          refine y_iinc (dtk dt_X4_stepsTo 22 (33, .iinc 4 1, 3) rfl) rfl (by decide) ⟨by omega, by omega⟩ ?_
          refine x_goto (tgt := 7) (dtk dt_X4_stepsTo 23 (36, .goto (-29), 3) rfl) (by decide) ?_
          refine MW.sub [2, 3, 4, 1, 0] rfl ?_
          exact ih7 _ (by omega) _ _ (by omega) (by rw [h2, rch_s hsz.2 hx h1.1]) (by rw [rs_s (by omega), ← bt_rch (k := v4) hsz.2 hy, ← h2, if_neg (by rw [c21]; decide), oe_m] at h3; exact h3) rfl
        · skip
          refine x_iload (dtk dt_X4_stepsTo 16 (24, .iload 4, 2) rfl) rfl ?_
          exact r_i (dtk dt_X4_stepsTo 17 (26, .ireturn, 1) rfl) rfl (by rw [rs_s (by omega), ← bt_rch (k := v4) hsz.2 hy, ← h2, if_pos c21, oe_n (by omega)] at h3; exact h3) rfl
  refine MW.sub [2, 3, 4, 1, 0] rfl ?_
  exact L7 _ _ _ (by omega) (rch_0 hsz.2 hx) rfl rfl
set_option maxRecDepth 100000 in
set_option maxHeartbeats 4000000 in
theorem c_X4_firstStep {G : GG} {n : Nat} {K : KK} {M : MM} {x y l : Int} {p nm m : Int} {ci : Nat} {d : Int → Int} (hO : OB K M p ci nm m d) (hx : 0 ≤ x ∧ x < m) (hy : 0 ≤ y ∧ y < m) : MC G mi_X4_firstStep 7 0 0 [(1, p), (0, x), (0, y), (0, l)] n K M (PQ (some (0, if fstC m d x y l = -1 then y else fstC m d x y l)) n K (M)) := by
  refine MC.intro (lc := [(0, (1, p)), (1, (0, x)), (2, (0, y)), (3, (0, l))]) (by decide) rfl (by simp [Nat.ble]) (Nat.le_of_ble_eq_true rfl) rfl (fun hMR => ?_)
  have hsz := hO.sz
  refine x_iconst (v := 0) ⟨by decide, by decide⟩ (dtk dt_X4_firstStep 0 (0, .iconst 0, 1) rfl) ?_
  refine x_istore (dtk dt_X4_firstStep 1 (1, .istore 4, 2) rfl) (by decide) ?_
  have L3 : ∀ (fu : Nat) (v4 : Int), (0 ≤ v4 ∧ v4 ≤ m) → (rs m (fun t => if nxt m d x t && decide (dst m d t y = l) then t else -1) v4 = fstC m d x y l) → (m - v4).toNat = fu → MW G mi_X4_firstStep (rmd 7 0 0) (MZ G (PQ (some (0, if fstC m d x y l = -1 then y else fstC m d x y l)) n K (M)) 0 0) (0, 0) 3 [(0, (1, p)), (1, (0, x)), (2, (0, y)), (3, (0, l)), (4, (0, v4))] [] n K (M) := by
    intro fu
    induction fu using Nat.strongRecOn with
    | ind fu ih3 =>
      intro v4 h1 h3 hk3
      refine x_iload (dtk dt_X4_firstStep 2 (3, .iload 4, 2) rfl) rfl ?_
      refine x_aload_n (dtk dt_X4_firstStep 3 (5, .aload_n 0, 1) rfl) rfl ?_
      refine fg_X4_34 rfl (dtk dt_X4_firstStep 4 (6, .getfield 34, 3) rfl) hO.k hO.c hO.n ?_
      refine x_icmp_ge (tgt := 42) (dtk dt_X4_firstStep 5 (9, .if_icmp .ge 33, 3) rfl) (by decide) (fun c9 => ?_) (fun c9 => ?_)
      · skip
        refine x_iload_n (dtk dt_X4_firstStep 21 (42, .iload_n 2, 1) rfl) rfl ?_
        exact r_i (dtk dt_X4_firstStep 22 (43, .ireturn, 1) rfl) rfl (by rw [rs_e (by omega)] at h3; rw [if_pos h3.symm]) rfl
      · skip
        refine x_aload_n (dtk dt_X4_firstStep 6 (12, .aload_n 0, 1) rfl) rfl ?_
        refine x_iload_n (dtk dt_X4_firstStep 7 (13, .iload_n 1, 1) rfl) rfl ?_
        refine x_iload (dtk dt_X4_firstStep 8 (14, .iload 4, 2) rfl) rfl ?_
        refine kc_X4_68 rfl (dtk dt_X4_firstStep 9 (16, .invokevirtual 68, 3) rfl) (c_X4_isNext (G := G)  hO (by omega) (by omega)) rfl rfl hO.k hO.c (fitR (by decide) (by decide)) (Nat.le_of_ble_eq_true rfl) (pqK ?_)
        refine x_if_eqB (tgt := 36) (dtk dt_X4_firstStep 10 (19, .ifCond .eq 17, 3) rfl) (by decide) (fun c19 => ?_) (fun c19 => ?_)
        · skip
          refine y_iinc (dtk dt_X4_firstStep 19 (36, .iinc 4 1, 3) rfl) rfl (by decide) ⟨by omega, by omega⟩ ?_
          refine x_goto (tgt := 3) (dtk dt_X4_firstStep 20 (39, .goto (-36), 3) rfl) (by decide) ?_
          refine MW.sub [1, 2, 3, 4, 0] rfl ?_
          exact ih3 _ (by omega) _ (by omega) (by rw [rs_s (by omega), if_neg (by first | (rw [c19]; simp; done) | (rw [c19, decide_eq_false c30]; simp)), oe_m] at h3; exact h3) rfl
        · skip
          refine x_aload_n (dtk dt_X4_firstStep 11 (22, .aload_n 0, 1) rfl) rfl ?_
          refine x_iload (dtk dt_X4_firstStep 12 (23, .iload 4, 2) rfl) rfl ?_
          refine x_iload_n (dtk dt_X4_firstStep 13 (25, .iload_n 2, 1) rfl) rfl ?_
          refine kc_X4_93 rfl (dtk dt_X4_firstStep 14 (26, .invokevirtual 93, 3) rfl) (c_X4_stepsTo (G := G)  hO (by omega) (by omega)) rfl rfl hO.k hO.c (fitR (by decide) (by decide)) (Nat.le_of_ble_eq_true rfl) (pqK ?_)
          refine x_iload_n (dtk dt_X4_firstStep 15 (29, .iload_n 3, 1) rfl) rfl ?_
          refine x_icmp_ne (tgt := 36) (dtk dt_X4_firstStep 16 (30, .if_icmp .ne 6, 3) rfl) (by decide) (fun c30 => ?_) (fun c30 => ?_)
          · skip
            refine y_iinc (dtk dt_X4_firstStep 19 (36, .iinc 4 1, 3) rfl) rfl (by decide) ⟨by omega, by omega⟩ ?_
            refine x_goto (tgt := 3) (dtk dt_X4_firstStep 20 (39, .goto (-36), 3) rfl) (by decide) ?_
            refine MW.sub [1, 2, 3, 4, 0] rfl ?_
            exact ih3 _ (by omega) _ (by omega) (by rw [rs_s (by omega), if_neg (by first | (rw [c19]; simp; done) | (rw [c19, decide_eq_false c30]; simp)), oe_m] at h3; exact h3) rfl
          · skip
            refine x_iload (dtk dt_X4_firstStep 17 (33, .iload 4, 2) rfl) rfl ?_
            exact r_i (dtk dt_X4_firstStep 18 (35, .ireturn, 1) rfl) rfl (by rw [rs_s (by omega), if_pos (by rw [c19, decide_eq_true (by omega)]; rfl), oe_n (by omega)] at h3; rw [← h3, if_neg (by omega)]) rfl
  refine MW.sub [1, 2, 3, 4, 0] rfl ?_
  exact L3 _ _ (by omega) rfl rfl
set_option maxRecDepth 100000 in
set_option maxHeartbeats 4000000 in
theorem c_X4_leastAbove {G : GG} {n : Nat} {K : KK} {M : MM} {a b : Int} {p nm m : Int} {ci : Nat} {d : Int → Int} (hO : OB K M p ci nm m d) (ha : 0 ≤ a ∧ a < m) (hb : 0 ≤ b ∧ b < m) : MC G mi_X4_leastAbove 1 0 0 [(1, p), (0, a), (0, b)] n K M (PQ (some (0, bnd m d 0 a b)) n K (M)) := by
  refine MC.intro (lc := [(0, (1, p)), (1, (0, a)), (2, (0, b))]) (by decide) rfl (by simp [Nat.ble]) (Nat.le_of_ble_eq_true rfl) rfl (fun hMR => ?_)
  have hsz := hO.sz
  have sa := sid_b (w := 0) hO.ok ha
  have sb := sid_b (w := 0) hO.ok hb
  have sab := nn_zand (nn10 sa) (nn10 sb)
  refine x_aload_n (dtk dt_X4_leastAbove 0 (0, .aload_n 0, 1) rfl) rfl ?_
  refine fg_X4_15 rfl (dtk dt_X4_leastAbove 1 (1, .getfield 15, 3) rfl) hO.k hO.c hO.upp ?_
  refine x_iload_n (dtk dt_X4_leastAbove 2 (4, .iload_n 1, 1) rfl) rfl ?_
  refine x_iald (dtk dt_X4_leastAbove 3 (5, .iaload, 1) rfl) hO.ku ⟨by omega, by omega⟩ ?_
  rw [hO.uat ⟨by omega, by omega⟩]
  refine x_iconst (v := 1) ⟨by decide, by decide⟩ (dtk dt_X4_leastAbove 4 (6, .iconst 1, 1) rfl) ?_
  refine x_iload_n (dtk dt_X4_leastAbove 5 (7, .iload_n 1, 1) rfl) rfl ?_
  refine x_ishl (dtk dt_X4_leastAbove 6 (8, .ishl, 1) rfl) ?_
  refine x_ior (dtk dt_X4_leastAbove 7 (9, .ior, 1) rfl) ?_
  refine x_aload_n (dtk dt_X4_leastAbove 8 (10, .aload_n 0, 1) rfl) rfl ?_
  refine fg_X4_15 rfl (dtk dt_X4_leastAbove 9 (11, .getfield 15, 3) rfl) hO.k hO.c hO.upp ?_
  refine x_iload_n (dtk dt_X4_leastAbove 10 (14, .iload_n 2, 1) rfl) rfl ?_
  refine x_iald (dtk dt_X4_leastAbove 11 (15, .iaload, 1) rfl) hO.ku ⟨by omega, by omega⟩ ?_
  rw [hO.uat ⟨by omega, by omega⟩]
  refine x_iconst (v := 1) ⟨by decide, by decide⟩ (dtk dt_X4_leastAbove 12 (16, .iconst 1, 1) rfl) ?_
  refine x_iload_n (dtk dt_X4_leastAbove 13 (17, .iload_n 2, 1) rfl) rfl ?_
  refine x_ishl (dtk dt_X4_leastAbove 14 (18, .ishl, 1) rfl) ?_
  refine x_ior (dtk dt_X4_leastAbove 15 (19, .ior, 1) rfl) ?_
  refine x_iand (dtk dt_X4_leastAbove 16 (20, .iand, 1) rfl) ?_
  change MW G _ _ _ _ _ _ ((0, zand (sid m d 0 a) (sid m d 0 b)) :: _) _ _ _
  refine x_istore_n (dtk dt_X4_leastAbove 17 (21, .istore_n 3, 1) rfl) (by decide) ?_
  refine x_iconst (v := 0) ⟨by decide, by decide⟩ (dtk dt_X4_leastAbove 18 (22, .iconst 0, 1) rfl) ?_
  refine x_istore (dtk dt_X4_leastAbove 19 (23, .istore 4, 2) rfl) (by decide) ?_
  have L25 : ∀ (fu : Nat) (v4 : Int), (0 ≤ v4 ∧ v4 ≤ m) → (rs m (fun c => if isBd m d 0 a b c then c else -1) v4 = bnd m d 0 a b) → (m - v4).toNat = fu → MW G mi_X4_leastAbove (rmd 1 0 0) (MZ G (PQ (some (0, bnd m d 0 a b)) n K (M)) 0 0) (0, 0) 25 [(0, (1, p)), (1, (0, a)), (2, (0, b)), (3, (0, zand (sid m d 0 a) (sid m d 0 b))), (4, (0, v4))] [] n K (M) := by
    intro fu
    induction fu using Nat.strongRecOn with
    | ind fu ih25 =>
      intro v4 h1 h3 hk25
      refine x_iload (dtk dt_X4_leastAbove 20 (25, .iload 4, 2) rfl) rfl ?_
      refine x_aload_n (dtk dt_X4_leastAbove 21 (27, .aload_n 0, 1) rfl) rfl ?_
      refine fg_X4_34 rfl (dtk dt_X4_leastAbove 22 (28, .getfield 34, 3) rfl) hO.k hO.c hO.n ?_
      refine x_icmp_ge (tgt := 71) (dtk dt_X4_leastAbove 23 (31, .if_icmp .ge 40, 3) rfl) (by decide) (fun c31 => ?_) (fun c31 => ?_)
      · skip
        refine x_iconst (v := -1) ⟨by decide, by decide⟩ (dtk dt_X4_leastAbove 47 (71, .iconst (-1), 1) rfl) ?_
        exact r_i (dtk dt_X4_leastAbove 48 (72, .ireturn, 1) rfl) rfl (by rw [rs_e (by omega)] at h3; exact h3) rfl
      · skip
        refine x_iload_n (dtk dt_X4_leastAbove 24 (34, .iload_n 3, 1) rfl) rfl ?_
        refine x_iload (dtk dt_X4_leastAbove 25 (35, .iload 4, 2) rfl) rfl ?_
        refine x_ishr (dtk dt_X4_leastAbove 26 (37, .ishr, 1) rfl) ?_
        refine x_iconst (v := 1) ⟨by decide, by decide⟩ (dtk dt_X4_leastAbove 27 (38, .iconst 1, 1) rfl) ?_
        refine x_iand (dtk dt_X4_leastAbove 28 (39, .iand, 1) rfl) ?_
        rw [zbit sab ⟨by omega, by omega⟩]
        change MW G _ _ _ _ _ _ ((0, B (bt (zand (sid m d 0 a) (sid m d 0 b)) (v4))) :: _) _ _ _
        refine x_if_eqB (tgt := 65) (dtk dt_X4_leastAbove 29 (40, .ifCond .eq 25, 3) rfl) (by decide) (fun c40 => ?_) (fun c40 => ?_)
        · skip
          refine y_iinc (dtk dt_X4_leastAbove 45 (65, .iinc 4 1, 3) rfl) rfl (by decide) ⟨by omega, by omega⟩ ?_
          refine x_goto (tgt := 25) (dtk dt_X4_leastAbove 46 (68, .goto (-43), 3) rfl) (by decide) ?_
          refine MW.sub [1, 2, 3, 4, 0] rfl ?_
          exact ih25 _ (by omega) _ (by omega) (by rw [rs_s (by omega), isBd_sid hO.ok ha hb ⟨h1.1, by omega⟩, if_neg (by first | (rw [c40]; simp; done) | (rw [c40]; unfold sub; rw [decide_eq_false c59]; simp)), oe_m] at h3; exact h3) rfl
        · skip
          refine x_iload_n (dtk dt_X4_leastAbove 30 (43, .iload_n 3, 1) rfl) rfl ?_
          refine x_aload_n (dtk dt_X4_leastAbove 31 (44, .aload_n 0, 1) rfl) rfl ?_
          refine fg_X4_15 rfl (dtk dt_X4_leastAbove 32 (45, .getfield 15, 3) rfl) hO.k hO.c hO.upp ?_
          refine x_iload (dtk dt_X4_leastAbove 33 (48, .iload 4, 2) rfl) rfl ?_
          refine x_iald (dtk dt_X4_leastAbove 34 (50, .iaload, 1) rfl) hO.ku ⟨by omega, by omega⟩ ?_
          rw [hO.uat ⟨by omega, by omega⟩]
          refine x_iconst (v := 1) ⟨by decide, by decide⟩ (dtk dt_X4_leastAbove 35 (51, .iconst 1, 1) rfl) ?_
          refine x_iload (dtk dt_X4_leastAbove 36 (52, .iload 4, 2) rfl) rfl ?_
          refine x_ishl (dtk dt_X4_leastAbove 37 (54, .ishl, 1) rfl) ?_
          refine x_ior (dtk dt_X4_leastAbove 38 (55, .ior, 1) rfl) ?_
          change MW G _ _ _ _ _ _ ((0, sid m d 0 v4) :: _) _ _ _
          refine x_iconst (v := -1) ⟨by decide, by decide⟩ (dtk dt_X4_leastAbove 39 (56, .iconst (-1), 1) rfl) ?_
          refine x_ixor (dtk dt_X4_leastAbove 40 (57, .ixor, 1) rfl) ?_
          refine x_iand (dtk dt_X4_leastAbove 41 (58, .iand, 1) rfl) ?_
          refine x_if_ne (tgt := 65) (dtk dt_X4_leastAbove 42 (59, .ifCond .ne 6, 3) rfl) (by decide) (fun c59 => ?_) (fun c59 => ?_)
          · skip
            refine y_iinc (dtk dt_X4_leastAbove 45 (65, .iinc 4 1, 3) rfl) rfl (by decide) ⟨by omega, by omega⟩ ?_
            refine x_goto (tgt := 25) (dtk dt_X4_leastAbove 46 (68, .goto (-43), 3) rfl) (by decide) ?_
            refine MW.sub [1, 2, 3, 4, 0] rfl ?_
            exact ih25 _ (by omega) _ (by omega) (by rw [rs_s (by omega), isBd_sid hO.ok ha hb ⟨h1.1, by omega⟩, if_neg (by first | (rw [c40]; simp; done) | (rw [c40]; unfold sub; rw [decide_eq_false c59]; simp)), oe_m] at h3; exact h3) rfl
          · skip
            refine x_iload (dtk dt_X4_leastAbove 43 (62, .iload 4, 2) rfl) rfl ?_
            exact r_i (dtk dt_X4_leastAbove 44 (64, .ireturn, 1) rfl) rfl (by rw [rs_s (by omega), isBd_sid hO.ok ha hb ⟨h1.1, by omega⟩, if_pos (by rw [c40]; unfold sub; rw [decide_eq_true (by omega)]; rfl), oe_n (by omega)] at h3; exact h3) rfl
  refine MW.sub [2, 3, 4, 1, 0] rfl ?_
  exact L25 _ _ (by omega) rfl rfl
set_option maxRecDepth 100000 in
set_option maxHeartbeats 4000000 in
theorem c_X4_greatestUnder {G : GG} {n : Nat} {K : KK} {M : MM} {a b : Int} {p nm m : Int} {ci : Nat} {d : Int → Int} (hO : OB K M p ci nm m d) (ha : 0 ≤ a ∧ a < m) (hb : 0 ≤ b ∧ b < m) : MC G mi_X4_greatestUnder 1 0 0 [(1, p), (0, a), (0, b)] n K M (PQ (some (0, bnd m d 1 a b)) n K (M)) := by
  refine MC.intro (lc := [(0, (1, p)), (1, (0, a)), (2, (0, b))]) (by decide) rfl (by simp [Nat.ble]) (Nat.le_of_ble_eq_true rfl) rfl (fun hMR => ?_)
  have hsz := hO.sz
  have sa := sid_b (w := 1) hO.ok ha
  have sb := sid_b (w := 1) hO.ok hb
  have sab := nn_zand (nn10 sa) (nn10 sb)
  refine x_aload_n (dtk dt_X4_greatestUnder 0 (0, .aload_n 0, 1) rfl) rfl ?_
  refine fg_X4_9 rfl (dtk dt_X4_greatestUnder 1 (1, .getfield 9, 3) rfl) hO.k hO.c hO.dn ?_
  refine x_iload_n (dtk dt_X4_greatestUnder 2 (4, .iload_n 1, 1) rfl) rfl ?_
  refine x_iald (dtk dt_X4_greatestUnder 3 (5, .iaload, 1) rfl) hO.kd ⟨by omega, by omega⟩ ?_
  rw [hO.dat ⟨by omega, by omega⟩]
  refine x_iconst (v := 1) ⟨by decide, by decide⟩ (dtk dt_X4_greatestUnder 4 (6, .iconst 1, 1) rfl) ?_
  refine x_iload_n (dtk dt_X4_greatestUnder 5 (7, .iload_n 1, 1) rfl) rfl ?_
  refine x_ishl (dtk dt_X4_greatestUnder 6 (8, .ishl, 1) rfl) ?_
  refine x_ior (dtk dt_X4_greatestUnder 7 (9, .ior, 1) rfl) ?_
  refine x_aload_n (dtk dt_X4_greatestUnder 8 (10, .aload_n 0, 1) rfl) rfl ?_
  refine fg_X4_9 rfl (dtk dt_X4_greatestUnder 9 (11, .getfield 9, 3) rfl) hO.k hO.c hO.dn ?_
  refine x_iload_n (dtk dt_X4_greatestUnder 10 (14, .iload_n 2, 1) rfl) rfl ?_
  refine x_iald (dtk dt_X4_greatestUnder 11 (15, .iaload, 1) rfl) hO.kd ⟨by omega, by omega⟩ ?_
  rw [hO.dat ⟨by omega, by omega⟩]
  refine x_iconst (v := 1) ⟨by decide, by decide⟩ (dtk dt_X4_greatestUnder 12 (16, .iconst 1, 1) rfl) ?_
  refine x_iload_n (dtk dt_X4_greatestUnder 13 (17, .iload_n 2, 1) rfl) rfl ?_
  refine x_ishl (dtk dt_X4_greatestUnder 14 (18, .ishl, 1) rfl) ?_
  refine x_ior (dtk dt_X4_greatestUnder 15 (19, .ior, 1) rfl) ?_
  refine x_iand (dtk dt_X4_greatestUnder 16 (20, .iand, 1) rfl) ?_
  change MW G _ _ _ _ _ _ ((0, zand (sid m d 1 a) (sid m d 1 b)) :: _) _ _ _
  refine x_istore_n (dtk dt_X4_greatestUnder 17 (21, .istore_n 3, 1) rfl) (by decide) ?_
  refine x_iconst (v := 0) ⟨by decide, by decide⟩ (dtk dt_X4_greatestUnder 18 (22, .iconst 0, 1) rfl) ?_
  refine x_istore (dtk dt_X4_greatestUnder 19 (23, .istore 4, 2) rfl) (by decide) ?_
  have L25 : ∀ (fu : Nat) (v4 : Int), (0 ≤ v4 ∧ v4 ≤ m) → (rs m (fun c => if isBd m d 1 a b c then c else -1) v4 = bnd m d 1 a b) → (m - v4).toNat = fu → MW G mi_X4_greatestUnder (rmd 1 0 0) (MZ G (PQ (some (0, bnd m d 1 a b)) n K (M)) 0 0) (0, 0) 25 [(0, (1, p)), (1, (0, a)), (2, (0, b)), (3, (0, zand (sid m d 1 a) (sid m d 1 b))), (4, (0, v4))] [] n K (M) := by
    intro fu
    induction fu using Nat.strongRecOn with
    | ind fu ih25 =>
      intro v4 h1 h3 hk25
      refine x_iload (dtk dt_X4_greatestUnder 20 (25, .iload 4, 2) rfl) rfl ?_
      refine x_aload_n (dtk dt_X4_greatestUnder 21 (27, .aload_n 0, 1) rfl) rfl ?_
      refine fg_X4_34 rfl (dtk dt_X4_greatestUnder 22 (28, .getfield 34, 3) rfl) hO.k hO.c hO.n ?_
      refine x_icmp_ge (tgt := 71) (dtk dt_X4_greatestUnder 23 (31, .if_icmp .ge 40, 3) rfl) (by decide) (fun c31 => ?_) (fun c31 => ?_)
      · skip
        refine x_iconst (v := -1) ⟨by decide, by decide⟩ (dtk dt_X4_greatestUnder 47 (71, .iconst (-1), 1) rfl) ?_
        exact r_i (dtk dt_X4_greatestUnder 48 (72, .ireturn, 1) rfl) rfl (by rw [rs_e (by omega)] at h3; exact h3) rfl
      · skip
        refine x_iload_n (dtk dt_X4_greatestUnder 24 (34, .iload_n 3, 1) rfl) rfl ?_
        refine x_iload (dtk dt_X4_greatestUnder 25 (35, .iload 4, 2) rfl) rfl ?_
        refine x_ishr (dtk dt_X4_greatestUnder 26 (37, .ishr, 1) rfl) ?_
        refine x_iconst (v := 1) ⟨by decide, by decide⟩ (dtk dt_X4_greatestUnder 27 (38, .iconst 1, 1) rfl) ?_
        refine x_iand (dtk dt_X4_greatestUnder 28 (39, .iand, 1) rfl) ?_
        rw [zbit sab ⟨by omega, by omega⟩]
        change MW G _ _ _ _ _ _ ((0, B (bt (zand (sid m d 1 a) (sid m d 1 b)) (v4))) :: _) _ _ _
        refine x_if_eqB (tgt := 65) (dtk dt_X4_greatestUnder 29 (40, .ifCond .eq 25, 3) rfl) (by decide) (fun c40 => ?_) (fun c40 => ?_)
        · skip
          refine y_iinc (dtk dt_X4_greatestUnder 45 (65, .iinc 4 1, 3) rfl) rfl (by decide) ⟨by omega, by omega⟩ ?_
          refine x_goto (tgt := 25) (dtk dt_X4_greatestUnder 46 (68, .goto (-43), 3) rfl) (by decide) ?_
          refine MW.sub [1, 2, 3, 4, 0] rfl ?_
          exact ih25 _ (by omega) _ (by omega) (by rw [rs_s (by omega), isBd_sid hO.ok ha hb ⟨h1.1, by omega⟩, if_neg (by first | (rw [c40]; simp; done) | (rw [c40]; unfold sub; rw [decide_eq_false c59]; simp)), oe_m] at h3; exact h3) rfl
        · skip
          refine x_iload_n (dtk dt_X4_greatestUnder 30 (43, .iload_n 3, 1) rfl) rfl ?_
          refine x_aload_n (dtk dt_X4_greatestUnder 31 (44, .aload_n 0, 1) rfl) rfl ?_
          refine fg_X4_9 rfl (dtk dt_X4_greatestUnder 32 (45, .getfield 9, 3) rfl) hO.k hO.c hO.dn ?_
          refine x_iload (dtk dt_X4_greatestUnder 33 (48, .iload 4, 2) rfl) rfl ?_
          refine x_iald (dtk dt_X4_greatestUnder 34 (50, .iaload, 1) rfl) hO.kd ⟨by omega, by omega⟩ ?_
          rw [hO.dat ⟨by omega, by omega⟩]
          refine x_iconst (v := 1) ⟨by decide, by decide⟩ (dtk dt_X4_greatestUnder 35 (51, .iconst 1, 1) rfl) ?_
          refine x_iload (dtk dt_X4_greatestUnder 36 (52, .iload 4, 2) rfl) rfl ?_
          refine x_ishl (dtk dt_X4_greatestUnder 37 (54, .ishl, 1) rfl) ?_
          refine x_ior (dtk dt_X4_greatestUnder 38 (55, .ior, 1) rfl) ?_
          change MW G _ _ _ _ _ _ ((0, sid m d 1 v4) :: _) _ _ _
          refine x_iconst (v := -1) ⟨by decide, by decide⟩ (dtk dt_X4_greatestUnder 39 (56, .iconst (-1), 1) rfl) ?_
          refine x_ixor (dtk dt_X4_greatestUnder 40 (57, .ixor, 1) rfl) ?_
          refine x_iand (dtk dt_X4_greatestUnder 41 (58, .iand, 1) rfl) ?_
          refine x_if_ne (tgt := 65) (dtk dt_X4_greatestUnder 42 (59, .ifCond .ne 6, 3) rfl) (by decide) (fun c59 => ?_) (fun c59 => ?_)
          · skip
            refine y_iinc (dtk dt_X4_greatestUnder 45 (65, .iinc 4 1, 3) rfl) rfl (by decide) ⟨by omega, by omega⟩ ?_
            refine x_goto (tgt := 25) (dtk dt_X4_greatestUnder 46 (68, .goto (-43), 3) rfl) (by decide) ?_
            refine MW.sub [1, 2, 3, 4, 0] rfl ?_
            exact ih25 _ (by omega) _ (by omega) (by rw [rs_s (by omega), isBd_sid hO.ok ha hb ⟨h1.1, by omega⟩, if_neg (by first | (rw [c40]; simp; done) | (rw [c40]; unfold sub; rw [decide_eq_false c59]; simp)), oe_m] at h3; exact h3) rfl
          · skip
            refine x_iload (dtk dt_X4_greatestUnder 43 (62, .iload 4, 2) rfl) rfl ?_
            exact r_i (dtk dt_X4_greatestUnder 44 (64, .ireturn, 1) rfl) rfl (by rw [rs_s (by omega), isBd_sid hO.ok ha hb ⟨h1.1, by omega⟩, if_pos (by rw [c40]; unfold sub; rw [decide_eq_true (by omega)]; rfl), oe_n (by omega)] at h3; exact h3) rfl
  refine MW.sub [2, 3, 4, 1, 0] rfl ?_
  exact L25 _ _ (by omega) rfl rfl
set_option maxRecDepth 100000 in
set_option maxHeartbeats 4000000 in
theorem c_X4_firstBentEnd {G : GG} {n : Nat} {K : KK} {M : MM} {a b : Int} {p nm m : Int} {ci : Nat} {d : Int → Int} (hO : OB K M p ci nm m d) (ha : 0 ≤ a ∧ a < m) (hb : 0 ≤ b ∧ b < m) : MC G mi_X4_firstBentEnd 5 0 0 [(1, p), (0, a), (0, b)] n K M (PQ (some (0, fbe m d a b)) n K (M)) := by
  refine MC.intro (lc := [(0, (1, p)), (1, (0, a)), (2, (0, b))]) (by decide) rfl (by simp [Nat.ble]) (Nat.le_of_ble_eq_true rfl) rfl (fun hMR => ?_)
  have hsz := hO.sz
  have ua := hO.unn a
  have ub := hO.unn b
  have n1 := nn_zand ua ub
  have n2 := nn_zdif ub ua
  refine x_aload_n (dtk dt_X4_firstBentEnd 0 (0, .aload_n 0, 1) rfl) rfl ?_
  refine fg_X4_15 rfl (dtk dt_X4_firstBentEnd 1 (1, .getfield 15, 3) rfl) hO.k hO.c hO.upp ?_
  refine x_iload_n (dtk dt_X4_firstBentEnd 2 (4, .iload_n 1, 1) rfl) rfl ?_
  refine x_iald (dtk dt_X4_firstBentEnd 3 (5, .iaload, 1) rfl) hO.ku ⟨by omega, by omega⟩ ?_
  rw [hO.uat ⟨by omega, by omega⟩]
  refine x_aload_n (dtk dt_X4_firstBentEnd 4 (6, .aload_n 0, 1) rfl) rfl ?_
  refine fg_X4_15 rfl (dtk dt_X4_firstBentEnd 5 (7, .getfield 15, 3) rfl) hO.k hO.c hO.upp ?_
  refine x_iload_n (dtk dt_X4_firstBentEnd 6 (10, .iload_n 2, 1) rfl) rfl ?_
  refine x_iald (dtk dt_X4_firstBentEnd 7 (11, .iaload, 1) rfl) hO.ku ⟨by omega, by omega⟩ ?_
  rw [hO.uat ⟨by omega, by omega⟩]
  refine x_iand (dtk dt_X4_firstBentEnd 8 (12, .iand, 1) rfl) ?_
  refine x_istore_n (dtk dt_X4_firstBentEnd 9 (13, .istore_n 3, 1) rfl) (by decide) ?_
  refine x_aload_n (dtk dt_X4_firstBentEnd 10 (14, .aload_n 0, 1) rfl) rfl ?_
  refine fg_X4_15 rfl (dtk dt_X4_firstBentEnd 11 (15, .getfield 15, 3) rfl) hO.k hO.c hO.upp ?_
  refine x_iload_n (dtk dt_X4_firstBentEnd 12 (18, .iload_n 2, 1) rfl) rfl ?_
  refine x_iald (dtk dt_X4_firstBentEnd 13 (19, .iaload, 1) rfl) hO.ku ⟨by omega, by omega⟩ ?_
  rw [hO.uat ⟨by omega, by omega⟩]
  refine x_aload_n (dtk dt_X4_firstBentEnd 14 (20, .aload_n 0, 1) rfl) rfl ?_
  refine fg_X4_15 rfl (dtk dt_X4_firstBentEnd 15 (21, .getfield 15, 3) rfl) hO.k hO.c hO.upp ?_
  refine x_iload_n (dtk dt_X4_firstBentEnd 16 (24, .iload_n 1, 1) rfl) rfl ?_
  refine x_iald (dtk dt_X4_firstBentEnd 17 (25, .iaload, 1) rfl) hO.ku ⟨by omega, by omega⟩ ?_
  rw [hO.uat ⟨by omega, by omega⟩]
  refine x_iconst (v := -1) ⟨by decide, by decide⟩ (dtk dt_X4_firstBentEnd 18 (26, .iconst (-1), 1) rfl) ?_
  refine x_ixor (dtk dt_X4_firstBentEnd 19 (27, .ixor, 1) rfl) ?_
  refine x_iand (dtk dt_X4_firstBentEnd 20 (28, .iand, 1) rfl) ?_
  refine x_istore (dtk dt_X4_firstBentEnd 21 (29, .istore 4, 2) rfl) (by decide) ?_
  refine x_iconst (v := 0) ⟨by decide, by decide⟩ (dtk dt_X4_firstBentEnd 22 (31, .iconst 0, 1) rfl) ?_
  refine x_istore (dtk dt_X4_firstBentEnd 23 (32, .istore 5, 2) rfl) (by decide) ?_
  have L34 : ∀ (fu : Nat) (v5 : Int), (0 ≤ v5 ∧ v5 ≤ m) → (rs m (fun c => rs m (fun e => if (rel d a c && rel d b c && (rel d b e && !rel d a e)) && apr d c e && apr d a e then 10 * c + e else -1) 0) v5 = fbe m d a b) → (m - v5).toNat = fu → MW G mi_X4_firstBentEnd (rmd 5 0 0) (MZ G (PQ (some (0, fbe m d a b)) n K (M)) 0 0) (0, 0) 34 [(0, (1, p)), (1, (0, a)), (2, (0, b)), (3, (0, zand (upS m d a) (upS m d b))), (4, (0, zand (upS m d b) (zxor (upS m d a) (-1)))), (5, (0, v5))] [] n K (M) := by
    intro fu
    induction fu using Nat.strongRecOn with
    | ind fu ih34 =>
      intro v5 h1 h3 hk34
      refine x_iload (dtk dt_X4_firstBentEnd 24 (34, .iload 5, 2) rfl) rfl ?_
      refine x_aload_n (dtk dt_X4_firstBentEnd 25 (36, .aload_n 0, 1) rfl) rfl ?_
      refine fg_X4_34 rfl (dtk dt_X4_firstBentEnd 26 (37, .getfield 34, 3) rfl) hO.k hO.c hO.n ?_
      refine x_icmp_ge (tgt := 128) (dtk dt_X4_firstBentEnd 27 (40, .if_icmp .ge 88, 3) rfl) (by decide) (fun c40 => ?_) (fun c40 => ?_)
      · skip
        refine x_iconst (v := -1) ⟨by decide, by decide⟩ (dtk dt_X4_firstBentEnd 72 (128, .iconst (-1), 1) rfl) ?_
        exact r_i (dtk dt_X4_firstBentEnd 73 (129, .ireturn, 1) rfl) rfl (by rw [rs_e (by omega)] at h3; exact h3) rfl
      · skip
        refine x_iconst (v := 0) ⟨by decide, by decide⟩ (dtk dt_X4_firstBentEnd 28 (43, .iconst 0, 1) rfl) ?_
        refine x_istore (dtk dt_X4_firstBentEnd 29 (44, .istore 6, 2) rfl) (by decide) ?_
        have L46 : ∀ (fu : Nat) (v6 : Int), (0 ≤ v6 ∧ v6 ≤ m) → (oe (rs m (fun e => if (rel d a v5 && rel d b v5 && (rel d b e && !rel d a e)) && apr d v5 e && apr d a e then 10 * v5 + e else -1) v6) (rs m (fun c => rs m (fun e => if (rel d a c && rel d b c && (rel d b e && !rel d a e)) && apr d c e && apr d a e then 10 * c + e else -1) 0) (v5 + 1)) = fbe m d a b) → (m - v6).toNat = fu → MW G mi_X4_firstBentEnd (rmd 5 0 0) (MZ G (PQ (some (0, fbe m d a b)) n K (M)) 0 0) (0, 0) 46 [(0, (1, p)), (1, (0, a)), (2, (0, b)), (3, (0, zand (upS m d a) (upS m d b))), (4, (0, zand (upS m d b) (zxor (upS m d a) (-1)))), (5, (0, v5)), (6, (0, v6))] [] n K (M) := by
          intro fu
          induction fu using Nat.strongRecOn with
          | ind fu ih46 =>
            intro v6 h4 h5 hk46
            refine x_iload (dtk dt_X4_firstBentEnd 30 (46, .iload 6, 2) rfl) rfl ?_
            refine x_aload_n (dtk dt_X4_firstBentEnd 31 (48, .aload_n 0, 1) rfl) rfl ?_
            refine fg_X4_34 rfl (dtk dt_X4_firstBentEnd 32 (49, .getfield 34, 3) rfl) hO.k hO.c hO.n ?_
            refine x_icmp_ge (tgt := 122) (dtk dt_X4_firstBentEnd 33 (52, .if_icmp .ge 70, 3) rfl) (by decide) (fun c52 => ?_) (fun c52 => ?_)
            · skip
              refine y_iinc (dtk dt_X4_firstBentEnd 70 (122, .iinc 5 1, 3) rfl) rfl (by decide) ⟨by omega, by omega⟩ ?_
              refine x_goto (tgt := 34) (dtk dt_X4_firstBentEnd 71 (125, .goto (-91), 3) rfl) (by decide) ?_
              refine MW.sub [1, 2, 3, 4, 5, 0] rfl ?_
              exact ih34 _ (by omega) _ (by omega) (by rw [rs_e (by omega), oe_m] at h5; exact h5) rfl
            · skip
              have hb5 : bt (zand (upS m d a) (upS m d b)) v5 = (rel d a v5 && rel d b v5) := by (rw [bt_zand ua ub, bt_upS hsz.2 h1.1, bt_upS hsz.2 h1.1, decide_eq_true (by omega)]; rfl)
              have hb6 : bt (zand (upS m d b) (zxor (upS m d a) (-1))) v6 = (rel d b v6 && !rel d a v6) := by (rw [bt_zdif ub ua, bt_upS hsz.2 h4.1, bt_upS hsz.2 h4.1, decide_eq_true (by omega)]; rfl)
              have J79_14 : ∀ (j7 : Bool), ((rel d a v5 && rel d b v5 && (rel d b v6 && !rel d a v6)) = j7) → MW G mi_X4_firstBentEnd (rmd 5 0 0) (MZ G (PQ (some (0, fbe m d a b)) n K (M)) 0 0) (0, 0) 79 [(0, (1, p)), (1, (0, a)), (2, (0, b)), (3, (0, zand (upS m d a) (upS m d b))), (4, (0, zand (upS m d b) (zxor (upS m d a) (-1)))), (5, (0, v5)), (6, (0, v6))] [(0, B j7)] n K (M) := by
                intro j7 hJ
                refine x_istore (dtk dt_X4_firstBentEnd 49 (79, .istore 7, 2) rfl) (by decide) ?_
                refine x_iload (dtk dt_X4_firstBentEnd 50 (81, .iload 7, 2) rfl) rfl ?_
                refine x_if_eqB (tgt := 116) (dtk dt_X4_firstBentEnd 51 (83, .ifCond .eq 33, 3) rfl) (by decide) (fun c83 => ?_) (fun c83 => ?_)
                · skip
                  refine y_iinc (dtk dt_X4_firstBentEnd 68 (116, .iinc 6 1, 3) rfl) rfl (by decide) ⟨by omega, by omega⟩ ?_
                  refine x_goto (tgt := 46) (dtk dt_X4_firstBentEnd 69 (119, .goto (-73), 3) rfl) (by decide) ?_
                  refine MW.sub [2, 3, 4, 5, 6, 7, 0] rfl ?_
                  exact ih46 _ (by omega) _ (by omega) (by rw [rs_s (by omega), if_neg (by first | (rw [hJ, c83]; simp; done) | (rw [c94]; simp; done) | (rw [c104]; simp)), oe_m] at h5; exact h5) rfl
                · skip
                  refine x_aload_n (dtk dt_X4_firstBentEnd 52 (86, .aload_n 0, 1) rfl) rfl ?_
                  refine x_iload (dtk dt_X4_firstBentEnd 53 (87, .iload 5, 2) rfl) rfl ?_
                  refine x_iload (dtk dt_X4_firstBentEnd 54 (89, .iload 6, 2) rfl) rfl ?_
                  refine kc_X4_103 rfl (dtk dt_X4_firstBentEnd 55 (91, .invokevirtual 103, 3) rfl) (c_X4_areUnordered (G := G)  hO (by omega) (by omega)) rfl rfl hO.k hO.c (fitR (by decide) (by decide)) (Nat.le_of_ble_eq_true rfl) (pqK ?_)
                  refine x_if_eqB (tgt := 116) (dtk dt_X4_firstBentEnd 56 (94, .ifCond .eq 22, 3) rfl) (by decide) (fun c94 => ?_) (fun c94 => ?_)
                  · skip
                    refine y_iinc (dtk dt_X4_firstBentEnd 68 (116, .iinc 6 1, 3) rfl) rfl (by decide) ⟨by omega, by omega⟩ ?_
                    refine x_goto (tgt := 46) (dtk dt_X4_firstBentEnd 69 (119, .goto (-73), 3) rfl) (by decide) ?_
                    refine MW.sub [2, 3, 4, 5, 6, 7, 0] rfl ?_
                    exact ih46 _ (by omega) _ (by omega) (by rw [rs_s (by omega), if_neg (by first | (rw [hJ, c83]; simp; done) | (rw [c94]; simp; done) | (rw [c104]; simp)), oe_m] at h5; exact h5) rfl
                  · skip
                    refine x_aload_n (dtk dt_X4_firstBentEnd 57 (97, .aload_n 0, 1) rfl) rfl ?_
                    refine x_iload_n (dtk dt_X4_firstBentEnd 58 (98, .iload_n 1, 1) rfl) rfl ?_
                    refine x_iload (dtk dt_X4_firstBentEnd 59 (99, .iload 6, 2) rfl) rfl ?_
                    refine kc_X4_103 rfl (dtk dt_X4_firstBentEnd 60 (101, .invokevirtual 103, 3) rfl) (c_X4_areUnordered (G := G)  hO (by omega) (by omega)) rfl rfl hO.k hO.c (fitR (by decide) (by decide)) (Nat.le_of_ble_eq_true rfl) (pqK ?_)
                    refine x_if_eqB (tgt := 116) (dtk dt_X4_firstBentEnd 61 (104, .ifCond .eq 12, 3) rfl) (by decide) (fun c104 => ?_) (fun c104 => ?_)
                    · skip
                      refine y_iinc (dtk dt_X4_firstBentEnd 68 (116, .iinc 6 1, 3) rfl) rfl (by decide) ⟨by omega, by omega⟩ ?_
                      refine x_goto (tgt := 46) (dtk dt_X4_firstBentEnd 69 (119, .goto (-73), 3) rfl) (by decide) ?_
                      refine MW.sub [2, 3, 4, 5, 6, 7, 0] rfl ?_
                      exact ih46 _ (by omega) _ (by omega) (by rw [rs_s (by omega), if_neg (by first | (rw [hJ, c83]; simp; done) | (rw [c94]; simp; done) | (rw [c104]; simp)), oe_m] at h5; exact h5) rfl
                    · skip
                      refine x_bipush (v := 10) ⟨by decide, by decide⟩ (dtk dt_X4_firstBentEnd 62 (107, .bipush 10, 2) rfl) ?_
                      refine x_iload (dtk dt_X4_firstBentEnd 63 (109, .iload 5, 2) rfl) rfl ?_
                      refine y_imul (dtk dt_X4_firstBentEnd 64 (111, .imul, 1) rfl) ⟨by omega, by omega⟩ ?_
                      refine x_iload (dtk dt_X4_firstBentEnd 65 (112, .iload 6, 2) rfl) rfl ?_
                      refine y_iadd (dtk dt_X4_firstBentEnd 66 (114, .iadd, 1) rfl) ⟨by omega, by omega⟩ ?_
                      exact r_i (dtk dt_X4_firstBentEnd 67 (115, .ireturn, 1) rfl) rfl (by rw [rs_s (by omega), if_pos (by rw [hJ, c83, c94, c104]; rfl), oe_n (x := 10 * v5 + v6) (by omega), oe_n (x := 10 * v5 + v6) (by omega)] at h5; exact h5) rfl
              refine x_iload_n (dtk dt_X4_firstBentEnd 34 (55, .iload_n 3, 1) rfl) rfl ?_
              refine x_iload (dtk dt_X4_firstBentEnd 35 (56, .iload 5, 2) rfl) rfl ?_
              refine x_ishr (dtk dt_X4_firstBentEnd 36 (58, .ishr, 1) rfl) ?_
              refine x_iconst (v := 1) ⟨by decide, by decide⟩ (dtk dt_X4_firstBentEnd 37 (59, .iconst 1, 1) rfl) ?_
              refine x_iand (dtk dt_X4_firstBentEnd 38 (60, .iand, 1) rfl) ?_
              rw [zbit n1 ⟨by omega, by omega⟩]
              change MW G _ _ _ _ _ _ ((0, B (bt (zand (upS m d a) (upS m d b)) (v5))) :: _) _ _ _
              refine x_if_eqB (tgt := 78) (dtk dt_X4_firstBentEnd 39 (61, .ifCond .eq 17, 3) rfl) (by decide) (fun c61 => ?_) (fun c61 => ?_)
              · skip
                refine x_iconst (v := 0) ⟨by decide, by decide⟩ (dtk dt_X4_firstBentEnd 48 (78, .iconst 0, 1) rfl) ?_
                refine MW.sub [0, 1, 2, 3, 4, 5, 6] rfl ?_
                exact J79_14 false (by rw [← hb5, ← hb6]; simp_all)
              · skip
                refine x_iload (dtk dt_X4_firstBentEnd 40 (64, .iload 4, 2) rfl) rfl ?_
                refine x_iload (dtk dt_X4_firstBentEnd 41 (66, .iload 6, 2) rfl) rfl ?_
                refine x_ishr (dtk dt_X4_firstBentEnd 42 (68, .ishr, 1) rfl) ?_
                refine x_iconst (v := 1) ⟨by decide, by decide⟩ (dtk dt_X4_firstBentEnd 43 (69, .iconst 1, 1) rfl) ?_
                refine x_iand (dtk dt_X4_firstBentEnd 44 (70, .iand, 1) rfl) ?_
                rw [zbit n2 ⟨by omega, by omega⟩]
                change MW G _ _ _ _ _ _ ((0, B (bt (zand (upS m d b) (zxor (upS m d a) (-1))) (v6))) :: _) _ _ _
                refine x_if_eqB (tgt := 78) (dtk dt_X4_firstBentEnd 45 (71, .ifCond .eq 7, 3) rfl) (by decide) (fun c71 => ?_) (fun c71 => ?_)
                · skip
                  refine x_iconst (v := 0) ⟨by decide, by decide⟩ (dtk dt_X4_firstBentEnd 48 (78, .iconst 0, 1) rfl) ?_
                  refine MW.sub [0, 1, 2, 3, 4, 5, 6] rfl ?_
                  exact J79_14 false (by rw [← hb5, ← hb6]; simp_all)
                · skip
                  refine x_iconst (v := 1) ⟨by decide, by decide⟩ (dtk dt_X4_firstBentEnd 46 (74, .iconst 1, 1) rfl) ?_
                  refine x_goto (tgt := 79) (dtk dt_X4_firstBentEnd 47 (75, .goto 4, 3) rfl) (by decide) ?_
                  refine MW.sub [0, 1, 2, 3, 4, 5, 6] rfl ?_
                  exact J79_14 true (by rw [← hb5, ← hb6]; simp_all)
        refine MW.sub [1, 2, 3, 4, 5, 6, 0] rfl ?_
        exact L46 _ _ (by omega) (by rw [rs_s (by omega)] at h3; exact h3) rfl
  refine MW.sub [3, 4, 5, 2, 1, 0] rfl ?_
  exact L34 _ _ (by omega) rfl rfl
set_option maxRecDepth 100000 in
set_option maxHeartbeats 4000000 in
theorem c_X4_firstBent {G : GG} {n : Nat} {K : KK} {M : MM} {p nm m : Int} {ci : Nat} {d : Int → Int} (hO : OB K M p ci nm m d) : MC G mi_X4_firstBent 6 0 0 [(1, p)] n K M (PQ (some (0, bentC m d)) n K (M)) := by
  refine MC.intro (lc := [(0, (1, p))]) (by decide) rfl (by simp [Nat.ble]) (Nat.le_of_ble_eq_true rfl) rfl (fun hMR => ?_)
  have hsz := hO.sz
  refine x_iconst (v := 0) ⟨by decide, by decide⟩ (dtk dt_X4_firstBent 0 (0, .iconst 0, 1) rfl) ?_
  refine x_istore_n (dtk dt_X4_firstBent 1 (1, .istore_n 1, 1) rfl) (by decide) ?_
  have L2 : ∀ (fu : Nat) (v1 : Int), (0 ≤ v1 ∧ v1 ≤ m) → (rs m (fun a => rs m (fun b => if fbV m d a b = -1 then -1 else 1000 * a + 100 * b + fbV m d a b) 0) v1 = bentC m d) → (m - v1).toNat = fu → MW G mi_X4_firstBent (rmd 6 0 0) (MZ G (PQ (some (0, bentC m d)) n K (M)) 0 0) (0, 0) 2 [(0, (1, p)), (1, (0, v1))] [] n K (M) := by
    intro fu
    induction fu using Nat.strongRecOn with
    | ind fu ih2 =>
      intro v1 h1 h3 hk2
      refine x_iload_n (dtk dt_X4_firstBent 2 (2, .iload_n 1, 1) rfl) rfl ?_
      refine x_aload_n (dtk dt_X4_firstBent 3 (3, .aload_n 0, 1) rfl) rfl ?_
      refine fg_X4_34 rfl (dtk dt_X4_firstBent 4 (4, .getfield 34, 3) rfl) hO.k hO.c hO.n ?_
      refine x_icmp_ge (tgt := 70) (dtk dt_X4_firstBent 5 (7, .if_icmp .ge 63, 3) rfl) (by decide) (fun c7 => ?_) (fun c7 => ?_)
      · skip
        refine x_iconst (v := -1) ⟨by decide, by decide⟩ (dtk dt_X4_firstBent 41 (70, .iconst (-1), 1) rfl) ?_
        exact r_i (dtk dt_X4_firstBent 42 (71, .ireturn, 1) rfl) rfl (by rw [rs_e (by omega)] at h3; exact h3) rfl
      · skip
        refine x_iconst (v := 0) ⟨by decide, by decide⟩ (dtk dt_X4_firstBent 6 (10, .iconst 0, 1) rfl) ?_
        refine x_istore_n (dtk dt_X4_firstBent 7 (11, .istore_n 2, 1) rfl) (by decide) ?_
        have L12 : ∀ (fu : Nat) (v2 : Int), (0 ≤ v2 ∧ v2 ≤ m) → (oe (rs m (fun b => if fbV m d v1 b = -1 then -1 else 1000 * v1 + 100 * b + fbV m d v1 b) v2) (rs m (fun a => rs m (fun b => if fbV m d a b = -1 then -1 else 1000 * a + 100 * b + fbV m d a b) 0) (v1 + 1)) = bentC m d) → (m - v2).toNat = fu → MW G mi_X4_firstBent (rmd 6 0 0) (MZ G (PQ (some (0, bentC m d)) n K (M)) 0 0) (0, 0) 12 [(0, (1, p)), (1, (0, v1)), (2, (0, v2))] [] n K (M) := by
          intro fu
          induction fu using Nat.strongRecOn with
          | ind fu ih12 =>
            intro v2 h4 h5 hk12
            refine x_iload_n (dtk dt_X4_firstBent 8 (12, .iload_n 2, 1) rfl) rfl ?_
            refine x_aload_n (dtk dt_X4_firstBent 9 (13, .aload_n 0, 1) rfl) rfl ?_
            refine fg_X4_34 rfl (dtk dt_X4_firstBent 10 (14, .getfield 34, 3) rfl) hO.k hO.c hO.n ?_
            refine x_icmp_ge (tgt := 64) (dtk dt_X4_firstBent 11 (17, .if_icmp .ge 47, 3) rfl) (by decide) (fun c17 => ?_) (fun c17 => ?_)
            · skip
              refine y_iinc (dtk dt_X4_firstBent 39 (64, .iinc 1 1, 3) rfl) rfl (by decide) ⟨by omega, by omega⟩ ?_
              refine x_goto (tgt := 2) (dtk dt_X4_firstBent 40 (67, .goto (-65), 3) rfl) (by decide) ?_
              refine MW.sub [1, 0] rfl ?_
              exact ih2 _ (by omega) _ (by omega) (by rw [rs_e (by omega), oe_m] at h5; exact h5) rfl
            · skip
              have J39_14 : ∀ (j3 : Int), (j3 = fbV m d v1 v2) → MW G mi_X4_firstBent (rmd 6 0 0) (MZ G (PQ (some (0, bentC m d)) n K (M)) 0 0) (0, 0) 39 [(0, (1, p)), (1, (0, v1)), (2, (0, v2))] [(0, j3)] n K (M) := by
                intro j3 hJ
                have hjb : -1 ≤ j3 ∧ j3 < 100 := by (have hz := fbe_b (d := d) hsz v1 v2; rw [hJ]; unfold fbV; split <;> omega)
                refine x_istore_n (dtk dt_X4_firstBent 23 (39, .istore_n 3, 1) rfl) (by decide) ?_
                refine x_iload_n (dtk dt_X4_firstBent 24 (40, .iload_n 3, 1) rfl) rfl ?_
                refine x_iconst (v := -1) ⟨by decide, by decide⟩ (dtk dt_X4_firstBent 25 (41, .iconst (-1), 1) rfl) ?_
                refine x_icmp_eq (tgt := 58) (dtk dt_X4_firstBent 26 (42, .if_icmp .eq 16, 3) rfl) (by decide) (fun c42 => ?_) (fun c42 => ?_)
                · skip
                  refine y_iinc (dtk dt_X4_firstBent 37 (58, .iinc 2 1, 3) rfl) rfl (by decide) ⟨by omega, by omega⟩ ?_
                  refine x_goto (tgt := 12) (dtk dt_X4_firstBent 38 (61, .goto (-49), 3) rfl) (by decide) ?_
                  refine MW.sub [2, 3, 0] rfl ?_
                  exact ih12 _ (by omega) _ (by omega) (by rw [rs_s (by omega), if_pos (by rw [← hJ]; omega), oe_m] at h5; exact h5) rfl
                · skip
                  refine x_sipush (v := 1000) ⟨by decide, by decide⟩ (dtk dt_X4_firstBent 27 (45, .sipush 1000, 3) rfl) ?_
                  refine x_iload_n (dtk dt_X4_firstBent 28 (48, .iload_n 1, 1) rfl) rfl ?_
                  refine y_imul (dtk dt_X4_firstBent 29 (49, .imul, 1) rfl) ⟨by omega, by omega⟩ ?_
                  refine x_bipush (v := 100) ⟨by decide, by decide⟩ (dtk dt_X4_firstBent 30 (50, .bipush 100, 2) rfl) ?_
                  refine x_iload_n (dtk dt_X4_firstBent 31 (52, .iload_n 2, 1) rfl) rfl ?_
                  refine y_imul (dtk dt_X4_firstBent 32 (53, .imul, 1) rfl) ⟨by omega, by omega⟩ ?_
                  refine y_iadd (dtk dt_X4_firstBent 33 (54, .iadd, 1) rfl) ⟨by omega, by omega⟩ ?_
                  refine x_iload_n (dtk dt_X4_firstBent 34 (55, .iload_n 3, 1) rfl) rfl ?_
                  refine y_iadd (dtk dt_X4_firstBent 35 (56, .iadd, 1) rfl) ⟨by omega, by omega⟩ ?_
                  exact r_i (dtk dt_X4_firstBent 36 (57, .ireturn, 1) rfl) rfl (by rw [rs_s (by omega), if_neg (by rw [← hJ]; omega), ← hJ, oe_n (x := 1000 * v1 + 100 * v2 + j3) (by omega), oe_n (x := 1000 * v1 + 100 * v2 + j3) (by omega)] at h5; exact h5) rfl
              refine x_aload_n (dtk dt_X4_firstBent 12 (20, .aload_n 0, 1) rfl) rfl ?_
              refine x_iload_n (dtk dt_X4_firstBent 13 (21, .iload_n 1, 1) rfl) rfl ?_
              refine x_iload_n (dtk dt_X4_firstBent 14 (22, .iload_n 2, 1) rfl) rfl ?_
              refine kc_X4_103 rfl (dtk dt_X4_firstBent 15 (23, .invokevirtual 103, 3) rfl) (c_X4_areUnordered (G := G)  hO (by omega) (by omega)) rfl rfl hO.k hO.c (fitR (by decide) (by decide)) (Nat.le_of_ble_eq_true rfl) (pqK ?_)
              refine x_if_eqB (tgt := 38) (dtk dt_X4_firstBent 16 (26, .ifCond .eq 12, 3) rfl) (by decide) (fun c26 => ?_) (fun c26 => ?_)
              · skip
                refine x_iconst (v := -1) ⟨by decide, by decide⟩ (dtk dt_X4_firstBent 22 (38, .iconst (-1), 1) rfl) ?_
                refine MW.sub [0, 1, 2] rfl ?_
                exact J39_14 _ (by unfold fbV; simp_all)
              · skip
                refine x_aload_n (dtk dt_X4_firstBent 17 (29, .aload_n 0, 1) rfl) rfl ?_
                refine x_iload_n (dtk dt_X4_firstBent 18 (30, .iload_n 1, 1) rfl) rfl ?_
                refine x_iload_n (dtk dt_X4_firstBent 19 (31, .iload_n 2, 1) rfl) rfl ?_
                refine kc_X4_106 rfl (dtk dt_X4_firstBent 20 (32, .invokevirtual 106, 3) rfl) (c_X4_firstBentEnd (G := G)  hO (by omega) (by omega)) rfl rfl hO.k hO.c (fitR (by decide) (by decide)) (Nat.le_of_ble_eq_true rfl) (pqK ?_)
                refine x_goto (tgt := 39) (dtk dt_X4_firstBent 21 (35, .goto 4, 3) rfl) (by decide) ?_
                refine MW.sub [0, 1, 2] rfl ?_
                exact J39_14 _ (by unfold fbV; simp_all)
        refine MW.sub [1, 2, 0] rfl ?_
        exact L12 _ _ (by omega) (by rw [rs_s (by omega)] at h3; exact h3) rfl
  refine MW.sub [1, 0] rfl ?_
  exact L2 _ _ (by omega) rfl rfl
