/-! ===== the class: counting ways ===== -/
set_option maxRecDepth 100000 in
set_option maxHeartbeats 4000000 in
theorem c_X6_canFollow {G : GG} {n : Nat} {K : KK} {M : MM} {s t : Int} {p nm m : Int} {ci : Nat} {d : Int → Int} (hO : OB K M p ci nm m d) (hs : 0 ≤ s ∧ s < 1024) (ht : 0 ≤ t ∧ t < m) : MC G mi_X6_canFollow 1 0 0 [(1, p), (0, s), (0, t)] n K M (PQ (some (0, B (can d s t))) n K (M)) := by
  refine MC.intro (lc := [(0, (1, p)), (1, (0, s)), (2, (0, t))]) (by decide) rfl (by simp [Nat.ble]) (Nat.le_of_ble_eq_true rfl) rfl (fun hMR => ?_)
  have hsz := hO.sz
  refine x_iload_n (dtk dt_X6_canFollow 0 (0, .iload_n 1, 1) rfl) rfl ?_
  refine x_iload_n (dtk dt_X6_canFollow 1 (1, .iload_n 2, 1) rfl) rfl ?_
  refine x_ishr (dtk dt_X6_canFollow 2 (2, .ishr, 1) rfl) ?_
  refine x_iconst (v := 1) ⟨by decide, by decide⟩ (dtk dt_X6_canFollow 3 (3, .iconst 1, 1) rfl) ?_
  refine x_iand (dtk dt_X6_canFollow 4 (4, .iand, 1) rfl) ?_
  rw [zbit (nn10 hs) ⟨by omega, by omega⟩]
  change MW G _ _ _ _ _ _ ((0, B (bt (s) (t))) :: _) _ _ _
  refine x_if_neB (tgt := 25) (dtk dt_X6_canFollow 5 (5, .ifCond .ne 20, 3) rfl) (by decide) (fun c5 => ?_) (fun c5 => ?_)
  · skip
    refine x_iconst (v := 0) ⟨by decide, by decide⟩ (dtk dt_X6_canFollow 17 (25, .iconst 0, 1) rfl) ?_
    exact r_b (b := false) (dtk dt_X6_canFollow 18 (26, .ireturn, 1) rfl) rfl (by unfold can may sub; simp_all) rfl
  · skip
    refine x_aload_n (dtk dt_X6_canFollow 6 (8, .aload_n 0, 1) rfl) rfl ?_
    refine fg_X6_32 rfl (dtk dt_X6_canFollow 7 (9, .getfield 32, 3) rfl) hO.k hO.c hO.dn ?_
    refine x_iload_n (dtk dt_X6_canFollow 8 (12, .iload_n 2, 1) rfl) rfl ?_
    refine x_iald (dtk dt_X6_canFollow 9 (13, .iaload, 1) rfl) hO.kd ⟨by omega, by omega⟩ ?_
    rw [hO.dat ⟨by omega, by omega⟩]
    refine x_iload_n (dtk dt_X6_canFollow 10 (14, .iload_n 1, 1) rfl) rfl ?_
    refine x_iconst (v := -1) ⟨by decide, by decide⟩ (dtk dt_X6_canFollow 11 (15, .iconst (-1), 1) rfl) ?_
    refine x_ixor (dtk dt_X6_canFollow 12 (16, .ixor, 1) rfl) ?_
    refine x_iand (dtk dt_X6_canFollow 13 (17, .iand, 1) rfl) ?_
    refine x_if_ne (tgt := 25) (dtk dt_X6_canFollow 14 (18, .ifCond .ne 7, 3) rfl) (by decide) (fun c18 => ?_) (fun c18 => ?_)
    · skip
      refine x_iconst (v := 0) ⟨by decide, by decide⟩ (dtk dt_X6_canFollow 17 (25, .iconst 0, 1) rfl) ?_
      exact r_b (b := false) (dtk dt_X6_canFollow 18 (26, .ireturn, 1) rfl) rfl (by unfold can may sub; simp_all) rfl
    · skip
      refine x_iconst (v := 1) ⟨by decide, by decide⟩ (dtk dt_X6_canFollow 15 (21, .iconst 1, 1) rfl) ?_
      refine x_goto (tgt := 26) (dtk dt_X6_canFollow 16 (22, .goto 4, 3) rfl) (by decide) ?_
      exact r_b (b := true) (dtk dt_X6_canFollow 18 (26, .ireturn, 1) rfl) rfl (by unfold can may sub; simp_all) rfl
set_option maxRecDepth 100000 in
set_option maxHeartbeats 4000000 in
theorem c_X6_spreadWays {G : GG} {n : Nat} {K : KK} {M : MM} {s : Int} {p nm m : Int} {ci : Nat} {d : Int → Int} (hO : OB K M p ci nm m d) (hs : 0 ≤ s ∧ s < p2 m) : MC G mi_X6_spreadWays 2 0 0 [(1, 9), (1, p), (0, s)] n K M (UQ sx none n K M (fun M' => (∀ t, 0 ≤ t → t < p2 m → M' 10 t = foldG m (wyC d 0 0 s) (M 10) t) ∧ M' 11 = M 11 ∧ M' 9 = M 9)) := by
  refine MC.intro (lc := [(0, (1, 9)), (1, (1, p)), (2, (0, s))]) (by decide) rfl (by simp [Nat.ble]) (Nat.le_of_ble_eq_true rfl) rfl (fun hMR => ?_)
  have hsz := hO.sz
  have hp := p2_b hsz
  refine x_iconst (v := 0) ⟨by decide, by decide⟩ (dtk dt_X6_spreadWays 0 (0, .iconst 0, 1) rfl) ?_
  refine x_istore_n (dtk dt_X6_spreadWays 1 (1, .istore_n 3, 1) rfl) (by decide) ?_
  have L2 : ∀ (fu : Nat) (v3 : Int) (M1 : MM), (0 ≤ v3 ∧ v3 ≤ m) → (sx M M1) → (∀ t, 0 ≤ t → t < p2 m → M1 10 t = foldG v3 (wyC d 0 0 s) (M 10) t) → (M1 11 = M 11 ∧ M1 9 = M 9) → (m - v3).toNat = fu → MW G mi_X6_spreadWays (rmd 2 0 0) (MZ G (UQ sx none n K M (fun M' => (∀ t, 0 ≤ t → t < p2 m → M' 10 t = foldG m (wyC d 0 0 s) (M 10) t) ∧ M' 11 = M 11 ∧ M' 9 = M 9)) 0 0) (0, 0) 2 [(0, (1, 9)), (1, (1, p)), (2, (0, s)), (3, (0, v3))] [] n K (M1) := by
    intro fu
    induction fu using Nat.strongRecOn with
    | ind fu ih2 =>
      intro v3 M1 h1 hs1 hw hk hk2
      refine MW.fact (fun hR1 _ _ => ?_)
      refine x_iload_n (dtk dt_X6_spreadWays 2 (2, .iload_n 3, 1) rfl) rfl ?_
      refine x_aload_n (dtk dt_X6_spreadWays 3 (3, .aload_n 1, 1) rfl) rfl ?_
      refine fg_X6_51 rfl (dtk dt_X6_spreadWays 4 (4, .getfield 51, 3) rfl) hO.k hO.c (hO.off_sx hs1).n ?_
      refine x_icmp_ge (tgt := 44) (dtk dt_X6_spreadWays 5 (7, .if_icmp .ge 37, 3) rfl) (by decide) (fun c7 => ?_) (fun c7 => ?_)
      · skip
        exact ru_v (dtk dt_X6_spreadWays 28 (44, .return_, 1) rfl) rfl hs1 ⟨fun t t0 t1 => by rw [hw t t0 t1, show v3 = m by omega], hk⟩
      · skip
        have hpl := plus_in hsz hs ⟨h1.1, (by omega : v3 < m)⟩
        refine x_aload_n (dtk dt_X6_spreadWays 6 (10, .aload_n 1, 1) rfl) rfl ?_
        refine x_iload_n (dtk dt_X6_spreadWays 7 (11, .iload_n 2, 1) rfl) rfl ?_
        refine x_iload_n (dtk dt_X6_spreadWays 8 (12, .iload_n 3, 1) rfl) rfl ?_
        refine kc_X6_54 rfl (dtk dt_X6_spreadWays 9 (13, .invokestatic 54, 3) rfl) (c_X6_canFollow (G := G)  (hO.off_sx hs1) ⟨by omega, by omega⟩ (by omega)) rfl rfl (fitR (by decide) (by decide)) (Nat.le_of_ble_eq_true rfl) (pqK ?_)
        refine x_if_eqB (tgt := 38) (dtk dt_X6_spreadWays 10 (16, .ifCond .eq 22, 3) rfl) (by decide) (fun c16 => ?_) (fun c16 => ?_)
        · skip
          refine y_iinc (dtk dt_X6_spreadWays 26 (38, .iinc 3 1, 3) rfl) rfl (by decide) ⟨by omega, by omega⟩ ?_
          refine x_goto (tgt := 2) (dtk dt_X6_spreadWays 27 (41, .goto (-39), 3) rfl) (by decide) ?_
          refine MW.sub [1, 2, 3, 0] rfl ?_
          exact ih2 _ (by omega) _ _ (by omega) hs1 (fun t t0 t1 => by rw [foldG_s h1.1]; show _ = (if t = plus s v3 then wr (foldG v3 (wyC d 0 0 s) (M 10) t + (if may d 0 0 s v3 then foldG v3 (wyC d 0 0 s) (M 10) s else 0)) else foldG v3 (wyC d 0 0 s) (M 10) t); first | (rw [if_pos (show may d 0 0 s v3 = true from c16), st2_up]; show (if t = plus s v3 then _ else _) = _; by_cases hq : t = plus s v3; (focus (rw [if_pos hq, if_pos hq, hq, ← hw _ hpl.1 hpl.2, ← hw s hs.1 hs.2])); (rw [if_neg hq, if_neg hq]; exact hw t t0 t1)) | (rw [if_neg (show ¬ may d 0 0 s v3 = true from by rw [show may d 0 0 s v3 = false from c16]; decide), ← hw t t0 t1, Int.add_zero, wr_in (hR1 10 t)]; split <;> rfl)) (by first | exact hk | (rw [st2_ne _ (show (11 : Int) ≠ 10 by decide), st2_ne _ (show (9 : Int) ≠ 10 by decide)]; exact hk)) rfl
        · skip
          refine x_aload_n (dtk dt_X6_spreadWays 11 (19, .aload_n 0, 1) rfl) rfl ?_
          refine fg_X6_9 rfl (dtk dt_X6_spreadWays 12 (20, .getfield 9, 3) rfl) (wk_9 hO.wf) (wm_9_0 (hO.off_sx hs1).wf) ?_
          refine x_iload_n (dtk dt_X6_spreadWays 13 (23, .iload_n 2, 1) rfl) rfl ?_
          refine x_iconst (v := 1) ⟨by decide, by decide⟩ (dtk dt_X6_spreadWays 14 (24, .iconst 1, 1) rfl) ?_
          refine x_iload_n (dtk dt_X6_spreadWays 15 (25, .iload_n 3, 1) rfl) rfl ?_
          refine x_ishl (dtk dt_X6_spreadWays 16 (26, .ishl, 1) rfl) ?_
          refine x_ior (dtk dt_X6_spreadWays 17 (27, .ior, 1) rfl) ?_
          change MW G _ _ _ _ _ _ ((0, plus s v3) :: _) _ _ _
          refine x_dup2 rfl rfl (dtk dt_X6_spreadWays 18 (28, .dup2, 1) rfl) ?_
          refine x_iald (dtk dt_X6_spreadWays 19 (29, .iaload, 1) rfl) (wk_10 hO.wf) ⟨by omega, by omega⟩ ?_
          refine x_aload_n (dtk dt_X6_spreadWays 20 (30, .aload_n 0, 1) rfl) rfl ?_
          refine fg_X6_9 rfl (dtk dt_X6_spreadWays 21 (31, .getfield 9, 3) rfl) (wk_9 hO.wf) (wm_9_0 (hO.off_sx hs1).wf) ?_
          refine x_iload_n (dtk dt_X6_spreadWays 22 (34, .iload_n 2, 1) rfl) rfl ?_
          refine x_iald (dtk dt_X6_spreadWays 23 (35, .iaload, 1) rfl) (wk_10 hO.wf) ⟨by omega, by omega⟩ ?_
          refine w_iadd (dtk dt_X6_spreadWays 24 (36, .iadd, 1) rfl) ?_
          refine x_iast (dtk dt_X6_spreadWays 25 (37, .iastore, 1) rfl) (wk_10 hO.wf) ⟨by omega, by omega⟩ ?_
          refine y_iinc (dtk dt_X6_spreadWays 26 (38, .iinc 3 1, 3) rfl) rfl (by decide) ⟨by omega, by omega⟩ ?_
          refine x_goto (tgt := 2) (dtk dt_X6_spreadWays 27 (41, .goto (-39), 3) rfl) (by decide) ?_
          refine MW.sub [1, 2, 3, 0] rfl ?_
          exact ih2 _ (by omega) _ _ (by omega) (sx.st 10 rfl hs1) (fun t t0 t1 => by rw [foldG_s h1.1]; show _ = (if t = plus s v3 then wr (foldG v3 (wyC d 0 0 s) (M 10) t + (if may d 0 0 s v3 then foldG v3 (wyC d 0 0 s) (M 10) s else 0)) else foldG v3 (wyC d 0 0 s) (M 10) t); first | (rw [if_pos (show may d 0 0 s v3 = true from c16), st2_up]; show (if t = plus s v3 then _ else _) = _; by_cases hq : t = plus s v3; (focus (rw [if_pos hq, if_pos hq, hq, ← hw _ hpl.1 hpl.2, ← hw s hs.1 hs.2])); (rw [if_neg hq, if_neg hq]; exact hw t t0 t1)) | (rw [if_neg (show ¬ may d 0 0 s v3 = true from by rw [show may d 0 0 s v3 = false from c16]; decide), ← hw t t0 t1, Int.add_zero, wr_in (hR1 10 t)]; split <;> rfl)) (by first | exact hk | (rw [st2_ne _ (show (11 : Int) ≠ 10 by decide), st2_ne _ (show (9 : Int) ≠ 10 by decide)]; exact hk)) rfl
  refine MW.sub [1, 2, 3, 0] rfl ?_
  exact L2 _ _ _ (by omega) sx.rf (fun t _ _ => rfl) ⟨rfl, rfl⟩ rfl
set_option maxRecDepth 100000 in
set_option maxHeartbeats 4000000 in
theorem c_X6_gatherWays {G : GG} {n : Nat} {K : KK} {M : MM} {s : Int} {p nm m : Int} {ci : Nat} {d : Int → Int} (hO : OB K M p ci nm m d) (hs : 0 ≤ s ∧ s < p2 m) : MC G mi_X6_gatherWays 2 0 0 [(1, 9), (1, p), (0, s)] n K M (PQ none n K (st2 M 11 s (gth m d (M 11) s))) := by
  refine MC.intro (lc := [(0, (1, 9)), (1, (1, p)), (2, (0, s))]) (by decide) rfl (by simp [Nat.ble]) (Nat.le_of_ble_eq_true rfl) rfl (fun hMR => ?_)
  have hsz := hO.sz
  have hp := p2_b hsz
  refine x_iconst (v := 0) ⟨by decide, by decide⟩ (dtk dt_X6_gatherWays 0 (0, .iconst 0, 1) rfl) ?_
  refine x_istore_n (dtk dt_X6_gatherWays 1 (1, .istore_n 3, 1) rfl) (by decide) ?_
  refine x_iconst (v := 0) ⟨by decide, by decide⟩ (dtk dt_X6_gatherWays 2 (2, .iconst 0, 1) rfl) ?_
  refine x_istore (dtk dt_X6_gatherWays 3 (3, .istore 4, 2) rfl) (by decide) ?_
  have L5 : ∀ (fu : Nat) (v3 : Int) (v4 : Int), (0 ≤ v4 ∧ v4 ≤ m) → (v3 = foldZ v4 (fun a c => if can d s c then wr (a + M 11 (plus s c)) else a) 0) → (m - v4).toNat = fu → MW G mi_X6_gatherWays (rmd 2 0 0) (MZ G (PQ none n K (st2 M 11 s (gth m d (M 11) s))) 0 0) (0, 0) 5 [(0, (1, 9)), (1, (1, p)), (2, (0, s)), (3, (0, v3)), (4, (0, v4))] [] n K (M) := by
    intro fu
    induction fu using Nat.strongRecOn with
    | ind fu ih5 =>
      intro v3 v4 h1 h2 hk5
      refine x_iload (dtk dt_X6_gatherWays 4 (5, .iload 4, 2) rfl) rfl ?_
      refine x_aload_n (dtk dt_X6_gatherWays 5 (7, .aload_n 1, 1) rfl) rfl ?_
      refine fg_X6_51 rfl (dtk dt_X6_gatherWays 6 (8, .getfield 51, 3) rfl) hO.k hO.c hO.n ?_
      refine x_icmp_ge (tgt := 44) (dtk dt_X6_gatherWays 7 (11, .if_icmp .ge 33, 3) rfl) (by decide) (fun c11 => ?_) (fun c11 => ?_)
      · skip
        refine x_aload_n (dtk dt_X6_gatherWays 26 (44, .aload_n 0, 1) rfl) rfl ?_
        refine fg_X6_15 rfl (dtk dt_X6_gatherWays 27 (45, .getfield 15, 3) rfl) (wk_9 hO.wf) (wm_9_1 hO.wf) ?_
        refine x_iload_n (dtk dt_X6_gatherWays 28 (48, .iload_n 2, 1) rfl) rfl ?_
        refine x_iload_n (dtk dt_X6_gatherWays 29 (49, .iload_n 3, 1) rfl) rfl ?_
        refine x_iast (dtk dt_X6_gatherWays 30 (50, .iastore, 1) rfl) (wk_11 hO.wf) ⟨by omega, by omega⟩ ?_
        exact r_v (dtk dt_X6_gatherWays 31 (51, .return_, 1) rfl) rfl (by rw [h2, show v4 = m by omega]; rfl)
      · skip
        have hpl := plus_in hsz hs ⟨h1.1, (by omega : v4 < m)⟩
        refine x_aload_n (dtk dt_X6_gatherWays 8 (14, .aload_n 1, 1) rfl) rfl ?_
        refine x_iload_n (dtk dt_X6_gatherWays 9 (15, .iload_n 2, 1) rfl) rfl ?_
        refine x_iload (dtk dt_X6_gatherWays 10 (16, .iload 4, 2) rfl) rfl ?_
        refine kc_X6_54 rfl (dtk dt_X6_gatherWays 11 (18, .invokestatic 54, 3) rfl) (c_X6_canFollow (G := G)  hO ⟨by omega, by omega⟩ (by omega)) rfl rfl (fitR (by decide) (by decide)) (Nat.le_of_ble_eq_true rfl) (pqK ?_)
        refine x_if_eqB (tgt := 38) (dtk dt_X6_gatherWays 12 (21, .ifCond .eq 17, 3) rfl) (by decide) (fun c21 => ?_) (fun c21 => ?_)
        · skip
          refine y_iinc (dtk dt_X6_gatherWays 24 (38, .iinc 4 1, 3) rfl) rfl (by decide) ⟨by omega, by omega⟩ ?_
          refine x_goto (tgt := 5) (dtk dt_X6_gatherWays 25 (41, .goto (-36), 3) rfl) (by decide) ?_
          refine MW.sub [1, 2, 3, 4, 0] rfl ?_
          exact ih5 _ (by omega) _ _ (by omega) (by rw [foldZ_s h1.1, ← h2]; first | (rw [if_pos c21]; done) | (rw [if_neg (by rw [c21]; decide)])) rfl
        · skip
          refine x_iload_n (dtk dt_X6_gatherWays 13 (24, .iload_n 3, 1) rfl) rfl ?_
          refine x_aload_n (dtk dt_X6_gatherWays 14 (25, .aload_n 0, 1) rfl) rfl ?_
          refine fg_X6_15 rfl (dtk dt_X6_gatherWays 15 (26, .getfield 15, 3) rfl) (wk_9 hO.wf) (wm_9_1 hO.wf) ?_
          refine x_iload_n (dtk dt_X6_gatherWays 16 (29, .iload_n 2, 1) rfl) rfl ?_
          refine x_iconst (v := 1) ⟨by decide, by decide⟩ (dtk dt_X6_gatherWays 17 (30, .iconst 1, 1) rfl) ?_
          refine x_iload (dtk dt_X6_gatherWays 18 (31, .iload 4, 2) rfl) rfl ?_
          refine x_ishl (dtk dt_X6_gatherWays 19 (33, .ishl, 1) rfl) ?_
          refine x_ior (dtk dt_X6_gatherWays 20 (34, .ior, 1) rfl) ?_
          change MW G _ _ _ _ _ _ ((0, plus s v4) :: _) _ _ _
          refine x_iald (dtk dt_X6_gatherWays 21 (35, .iaload, 1) rfl) (wk_11 hO.wf) ⟨by omega, by omega⟩ ?_
          refine w_iadd (dtk dt_X6_gatherWays 22 (36, .iadd, 1) rfl) ?_
          refine x_istore_n (dtk dt_X6_gatherWays 23 (37, .istore_n 3, 1) rfl) (by decide) ?_
          refine y_iinc (dtk dt_X6_gatherWays 24 (38, .iinc 4 1, 3) rfl) rfl (by decide) ⟨by omega, by omega⟩ ?_
          refine x_goto (tgt := 5) (dtk dt_X6_gatherWays 25 (41, .goto (-36), 3) rfl) (by decide) ?_
          refine MW.sub [2, 3, 4, 1, 0] rfl ?_
          exact ih5 _ (by omega) _ _ (by omega) (by rw [foldZ_s h1.1, ← h2]; first | (rw [if_pos c21]; done) | (rw [if_neg (by rw [c21]; decide)])) rfl
  refine MW.sub [2, 3, 4, 1, 0] rfl ?_
  exact L5 _ _ _ (by omega) rfl rfl
set_option maxRecDepth 100000 in
set_option maxHeartbeats 4000000 in
theorem c_X6_countWays {G : GG} {n : Nat} {K : KK} {M : MM} {p nm m : Int} {ci : Nat} {d : Int → Int} (hO : OB K M p ci nm m d) (hR : RC K M) : MC G mi_X6_countWays 3 0 0 [(1, 9), (1, p)] n K M (UQ sx none n K M (fun M' => RC K M' ∧ CW M' m d)) := by
  refine MC.intro (lc := [(0, (1, 9)), (1, (1, p))]) (by decide) rfl (by simp [Nat.ble]) (Nat.le_of_ble_eq_true rfl) rfl (fun hMR => ?_)
  have hsz := hO.sz
  have hp := p2_b hsz
  have hg := hO.ge
  have hR9 : -1 ≤ M 9 4 := by (rcases hR with hq | hq <;> omega)
  have J20_2 : (True) → MW G mi_X6_countWays (rmd 3 0 0) (MZ G (UQ sx none n K M (fun M' => RC K M' ∧ CW M' m d)) 0 0) (0, 0) 20 [(0, (1, 9)), (1, (1, p))] [] n K (M) := by
    intro  hj0
    refine x_aload_n (dtk dt_X6_countWays 10 (20, .aload_n 0, 1) rfl) rfl ?_
    refine x_aload_n (dtk dt_X6_countWays 11 (21, .aload_n 1, 1) rfl) rfl ?_
    refine fp_X6_24 rfl (dtk dt_X6_countWays 12 (22, .putfield 24, 3) rfl) (wk_9 hO.wf) ?_
    refine x_aload_n (dtk dt_X6_countWays 13 (25, .aload_n 0, 1) rfl) rfl ?_
    refine x_aload_n (dtk dt_X6_countWays 14 (26, .aload_n 1, 1) rfl) rfl ?_
    refine fg_X6_37 rfl (dtk dt_X6_countWays 15 (27, .getfield 37, 3) rfl) hO.k hO.c (hO.off_sx (sx.fd 9 4 rfl sx.rf)).pc ?_
    refine fp_X6_28 rfl (dtk dt_X6_countWays 16 (30, .putfield 28, 3) rfl) (wk_9 hO.wf) ?_
    refine x_aload_n (dtk dt_X6_countWays 17 (33, .aload_n 1, 1) rfl) rfl ?_
    refine kc_X6_40 rfl (dtk dt_X6_countWays 18 (34, .invokevirtual 40, 3) rfl) (c_X4_all (G := G)  (hO.off_sx (sx.fd 9 5 rfl (sx.fd 9 4 rfl sx.rf)))) rfl rfl hO.k hO.c (fitR (by decide) (by decide)) (Nat.le_of_ble_eq_true rfl) (pqK ?_)
    refine x_istore_n (dtk dt_X6_countWays 19 (37, .istore_n 2, 1) rfl) (by decide) ?_
    refine x_iconst (v := 0) ⟨by decide, by decide⟩ (dtk dt_X6_countWays 20 (38, .iconst 0, 1) rfl) ?_
    refine x_istore_n (dtk dt_X6_countWays 21 (39, .istore_n 3, 1) rfl) (by decide) ?_
    have L40 : ∀ (fu : Nat) (v3 : Int) (M1 : MM), (0 ≤ v3 ∧ v3 ≤ p2 m) → (sx M M1) → (M1 9 4 = p ∧ M1 9 5 = prs m d) → (∀ t, 0 ≤ t → t < v3 → M1 10 t = 0 ∧ M1 11 t = 0) → (p2 m - v3).toNat = fu → MW G mi_X6_countWays (rmd 3 0 0) (MZ G (UQ sx none n K M (fun M' => RC K M' ∧ CW M' m d)) 0 0) (0, 0) 40 [(0, (1, 9)), (1, (1, p)), (2, (0, p2 m - 1)), (3, (0, v3))] [] n K (M1) := by
      intro fu
      induction fu using Nat.strongRecOn with
      | ind fu ih40 =>
        intro v3 M1 h1 hs1 hk1 hw1 hk40
        refine x_iload_n (dtk dt_X6_countWays 22 (40, .iload_n 3, 1) rfl) rfl ?_
        refine x_iload_n (dtk dt_X6_countWays 23 (41, .iload_n 2, 1) rfl) rfl ?_
        refine x_icmp_gt (tgt := 65) (dtk dt_X6_countWays 24 (42, .if_icmp .gt 23, 3) rfl) (by decide) (fun c42 => ?_) (fun c42 => ?_)
        · skip
          refine x_aload_n (dtk dt_X6_countWays 37 (65, .aload_n 0, 1) rfl) rfl ?_
          refine fg_X6_9 rfl (dtk dt_X6_countWays 38 (66, .getfield 9, 3) rfl) (wk_9 hO.wf) (wm_9_0 (hO.off_sx hs1).wf) ?_
          refine x_iconst (v := 0) ⟨by decide, by decide⟩ (dtk dt_X6_countWays 39 (69, .iconst 0, 1) rfl) ?_
          refine x_iconst (v := 1) ⟨by decide, by decide⟩ (dtk dt_X6_countWays 40 (70, .iconst 1, 1) rfl) ?_
          refine x_iast (dtk dt_X6_countWays 41 (71, .iastore, 1) rfl) (wk_10 hO.wf) ⟨by omega, by omega⟩ ?_
          refine x_iconst (v := 0) ⟨by decide, by decide⟩ (dtk dt_X6_countWays 42 (72, .iconst 0, 1) rfl) ?_
          refine x_istore_n (dtk dt_X6_countWays 43 (73, .istore_n 3, 1) rfl) (by decide) ?_
          have L74 : ∀ (fu : Nat) (v3 : Int) (M2 : MM), (0 ≤ v3 ∧ v3 ≤ p2 m - 1) → (sx M M2) → (M2 9 4 = p ∧ M2 9 5 = prs m d) → (∀ t, 0 ≤ t → t < p2 m → M2 10 t = wyS m d 0 0 v3 t ∧ M2 11 t = 0) → (p2 m - v3).toNat = fu → MW G mi_X6_countWays (rmd 3 0 0) (MZ G (UQ sx none n K M (fun M' => RC K M' ∧ CW M' m d)) 0 0) (0, 0) 74 [(0, (1, 9)), (1, (1, p)), (2, (0, p2 m - 1)), (3, (0, v3))] [] n K (M2) := by
            intro fu
            induction fu using Nat.strongRecOn with
            | ind fu ih74 =>
              intro v3 M2 h3 hs2 hk2 hw2 hk74
              refine x_iload_n (dtk dt_X6_countWays 44 (74, .iload_n 3, 1) rfl) rfl ?_
              refine x_iload_n (dtk dt_X6_countWays 45 (75, .iload_n 2, 1) rfl) rfl ?_
              refine x_icmp_ge (tgt := 100) (dtk dt_X6_countWays 46 (76, .if_icmp .ge 24, 3) rfl) (by decide) (fun c76 => ?_) (fun c76 => ?_)
              · skip
                refine x_aload_n (dtk dt_X6_countWays 58 (100, .aload_n 0, 1) rfl) rfl ?_
                refine fg_X6_15 rfl (dtk dt_X6_countWays 59 (101, .getfield 15, 3) rfl) (wk_9 hO.wf) (wm_9_1 (hO.off_sx hs2).wf) ?_
                refine x_iload_n (dtk dt_X6_countWays 60 (104, .iload_n 2, 1) rfl) rfl ?_
                refine x_iconst (v := 1) ⟨by decide, by decide⟩ (dtk dt_X6_countWays 61 (105, .iconst 1, 1) rfl) ?_
                refine x_iast (dtk dt_X6_countWays 62 (106, .iastore, 1) rfl) (wk_11 hO.wf) ⟨by omega, by omega⟩ ?_
                refine x_iload_n (dtk dt_X6_countWays 63 (107, .iload_n 2, 1) rfl) rfl ?_
                refine x_iconst (v := 1) ⟨by decide, by decide⟩ (dtk dt_X6_countWays 64 (108, .iconst 1, 1) rfl) ?_
                refine y_isub (dtk dt_X6_countWays 65 (109, .isub, 1) rfl) ⟨by omega, by omega⟩ ?_
                refine x_istore_n (dtk dt_X6_countWays 66 (110, .istore_n 3, 1) rfl) (by decide) ?_
                have L111 : ∀ (fu : Nat) (v3 : Int) (M3 : MM), (-1 ≤ v3 ∧ v3 < p2 m - 1) → (sx M M3) → (M3 9 4 = p ∧ M3 9 5 = prs m d) → (∀ t, 0 ≤ t → t < p2 m → M3 10 t = wy m d t) → (∀ t, 0 ≤ t → t < p2 m → M3 11 t = if v3 < t then fw m d t else 0) → (v3 + 1).toNat = fu → MW G mi_X6_countWays (rmd 3 0 0) (MZ G (UQ sx none n K M (fun M' => RC K M' ∧ CW M' m d)) 0 0) (0, 0) 111 [(0, (1, 9)), (1, (1, p)), (2, (0, p2 m - 1)), (3, (0, v3))] [] n K (M3) := by
                  intro fu
                  induction fu using Nat.strongRecOn with
                  | ind fu ih111 =>
                    intro v3 M3 h5 hs3 hk3 hw3 hf3 hk111
                    refine x_iload_n (dtk dt_X6_countWays 67 (111, .iload_n 3, 1) rfl) rfl ?_
                    refine x_if_lt (tgt := 136) (dtk dt_X6_countWays 68 (112, .ifCond .lt 24, 3) rfl) (by decide) (fun c112 => ?_) (fun c112 => ?_)
                    · skip
                      exact ru_v (dtk dt_X6_countWays 80 (136, .return_, 1) rfl) rfl hs3 (by have hcw : CW M3 m d := (fun t t0 t1 => ⟨hw3 t t0 t1, by rw [hf3 t t0 t1, if_pos (by omega)]⟩); exact ⟨RC.mk (hO.off_sx hs3) hk3.1 hk3.2 hcw, hcw⟩)
                    · skip
                      refine x_aload_n (dtk dt_X6_countWays 69 (115, .aload_n 0, 1) rfl) rfl ?_
                      refine fg_X6_9 rfl (dtk dt_X6_countWays 70 (116, .getfield 9, 3) rfl) (wk_9 hO.wf) (wm_9_0 (hO.off_sx hs3).wf) ?_
                      refine x_iload_n (dtk dt_X6_countWays 71 (119, .iload_n 3, 1) rfl) rfl ?_
                      refine x_iald (dtk dt_X6_countWays 72 (120, .iaload, 1) rfl) (wk_10 hO.wf) ⟨by omega, by omega⟩ ?_
                      refine x_if_eq (tgt := 130) (dtk dt_X6_countWays 73 (121, .ifCond .eq 9, 3) rfl) (by decide) (fun c121 => ?_) (fun c121 => ?_)
                      · skip
                        refine y_iinc (dtk dt_X6_countWays 78 (130, .iinc 3 (-1), 3) rfl) rfl (by decide) ⟨by omega, by omega⟩ ?_
                        refine x_goto (tgt := 111) (dtk dt_X6_countWays 79 (133, .goto (-22), 3) rfl) (by decide) ?_
                        refine MW.sub [1, 2, 3, 0] rfl ?_
                        exact ih111 _ (by omega) _ _ (by omega) hs3 (by first | exact hk3 | (rw [st2_ne _ (show (9 : Int) ≠ 11 by decide)]; exact hk3)) (by first | exact hw3 | (rw [st2_ne _ (show (10 : Int) ≠ 11 by decide)]; exact hw3)) (fun t t0 t1 => by first | (have hz := hf3 t t0 t1; by_cases hq : t = v3; (focus (rw [if_neg (by omega)] at hz; rw [hz, if_pos (by omega), hq]; unfold fw; rw [if_pos ⟨by rw [← hw3 v3 (by omega) (by omega)]; exact c121, by omega⟩])); (rw [hz]; by_cases hy : v3 < t; (rw [if_pos hy, if_pos (by omega)]); (rw [if_neg hy, if_neg (by omega)]))) | (rw [st2_up]; show (if t = v3 then _ else _) = _; by_cases hq : t = v3; (focus (rw [if_pos hq, if_pos (by omega), hq]; have hwn : wy m d v3 ≠ 0 := (by rw [← hw3 v3 (by omega) (by omega)]; exact c121); unfold fw; rw [if_neg (fun hz => hwn hz.1)]; exact gth_tl hsz ⟨by omega, by omega⟩ (by omega) (fun c c0 c1 hcn => by have hpl := plus_in hsz (s := v3) ⟨by omega, by omega⟩ ⟨c0, c1⟩; have hgt := plus_gt (s := v3) (c := c) ⟨by omega, by omega⟩ ⟨c0, by omega⟩ (may_nb hcn); rw [hf3 _ hpl.1 hpl.2, if_pos (by omega)]; unfold fw; rw [if_neg (fun hz => wy_up hsz ⟨by omega, by omega⟩ ⟨c0, c1⟩ hwn hcn hz.1)]))); (rw [if_neg hq, hf3 t t0 t1]; by_cases hy : v3 < t; (rw [if_pos hy, if_pos (by omega)]); (rw [if_neg hy, if_neg (by omega)])))) rfl
                      · skip
                        refine x_aload_n (dtk dt_X6_countWays 74 (124, .aload_n 0, 1) rfl) rfl ?_
                        refine x_aload_n (dtk dt_X6_countWays 75 (125, .aload_n 1, 1) rfl) rfl ?_
                        refine x_iload_n (dtk dt_X6_countWays 76 (126, .iload_n 3, 1) rfl) rfl ?_
                        refine kc_X6_48 rfl (dtk dt_X6_countWays 77 (127, .invokevirtual 48, 3) rfl) (c_X6_gatherWays (G := G)  (hO.off_sx hs3) (by omega)) rfl rfl (wk_9 hO.wf) (fitR (by decide) (by decide)) (Nat.le_of_ble_eq_true rfl) (pqK ?_)
                        refine y_iinc (dtk dt_X6_countWays 78 (130, .iinc 3 (-1), 3) rfl) rfl (by decide) ⟨by omega, by omega⟩ ?_
                        refine x_goto (tgt := 111) (dtk dt_X6_countWays 79 (133, .goto (-22), 3) rfl) (by decide) ?_
                        refine MW.sub [1, 2, 3, 0] rfl ?_
                        exact ih111 _ (by omega) _ _ (by omega) (sx.st 11 rfl hs3) (by first | exact hk3 | (rw [st2_ne _ (show (9 : Int) ≠ 11 by decide)]; exact hk3)) (by first | exact hw3 | (rw [st2_ne _ (show (10 : Int) ≠ 11 by decide)]; exact hw3)) (fun t t0 t1 => by first | (have hz := hf3 t t0 t1; by_cases hq : t = v3; (focus (rw [if_neg (by omega)] at hz; rw [hz, if_pos (by omega), hq]; unfold fw; rw [if_pos ⟨by rw [← hw3 v3 (by omega) (by omega)]; exact c121, by omega⟩])); (rw [hz]; by_cases hy : v3 < t; (rw [if_pos hy, if_pos (by omega)]); (rw [if_neg hy, if_neg (by omega)]))) | (rw [st2_up]; show (if t = v3 then _ else _) = _; by_cases hq : t = v3; (focus (rw [if_pos hq, if_pos (by omega), hq]; have hwn : wy m d v3 ≠ 0 := (by rw [← hw3 v3 (by omega) (by omega)]; exact c121); unfold fw; rw [if_neg (fun hz => hwn hz.1)]; exact gth_tl hsz ⟨by omega, by omega⟩ (by omega) (fun c c0 c1 hcn => by have hpl := plus_in hsz (s := v3) ⟨by omega, by omega⟩ ⟨c0, c1⟩; have hgt := plus_gt (s := v3) (c := c) ⟨by omega, by omega⟩ ⟨c0, by omega⟩ (may_nb hcn); rw [hf3 _ hpl.1 hpl.2, if_pos (by omega)]; unfold fw; rw [if_neg (fun hz => wy_up hsz ⟨by omega, by omega⟩ ⟨c0, c1⟩ hwn hcn hz.1)]))); (rw [if_neg hq, hf3 t t0 t1]; by_cases hy : v3 < t; (rw [if_pos hy, if_pos (by omega)]); (rw [if_neg hy, if_neg (by omega)])))) rfl
                refine MW.sub [1, 2, 3, 0] rfl ?_
                exact L111 _ _ _ (by omega) (sx.st 11 rfl hs2) (by rw [st2_ne _ (show (9 : Int) ≠ 11 by decide)]; exact hk2) (fun t t0 t1 => by rw [st2_ne _ (show (10 : Int) ≠ 11 by decide), (hw2 t t0 t1).1, show v3 = p2 m - 1 by omega]; exact wy_last hsz ⟨t0, t1⟩) (fun t t0 t1 => by rw [st2_up]; show (if t = p2 m - 1 then _ else _) = _; by_cases hq : t = p2 m - 1; (rw [if_pos hq, if_pos (by omega), hq]; unfold fw; rw [if_neg (by omega)]; exact (tl_all hsz).symm); (rw [if_neg hq, if_neg (by omega)]; exact (hw2 t t0 t1).2)) rfl
              · skip
                refine x_aload_n (dtk dt_X6_countWays 47 (79, .aload_n 0, 1) rfl) rfl ?_
                refine fg_X6_9 rfl (dtk dt_X6_countWays 48 (80, .getfield 9, 3) rfl) (wk_9 hO.wf) (wm_9_0 (hO.off_sx hs2).wf) ?_
                refine x_iload_n (dtk dt_X6_countWays 49 (83, .iload_n 3, 1) rfl) rfl ?_
                refine x_iald (dtk dt_X6_countWays 50 (84, .iaload, 1) rfl) (wk_10 hO.wf) ⟨by omega, by omega⟩ ?_
                refine x_if_eq (tgt := 94) (dtk dt_X6_countWays 51 (85, .ifCond .eq 9, 3) rfl) (by decide) (fun c85 => ?_) (fun c85 => ?_)
                · skip
                  refine y_iinc (dtk dt_X6_countWays 56 (94, .iinc 3 1, 3) rfl) rfl (by decide) ⟨by omega, by omega⟩ ?_
                  refine x_goto (tgt := 74) (dtk dt_X6_countWays 57 (97, .goto (-23), 3) rfl) (by decide) ?_
                  refine MW.sub [1, 2, 3, 0] rfl ?_
                  exact ih74 _ (by omega) _ _ (by omega) hs2 (by first | exact hk2 | (rw [hE.2.2]; exact hk2)) (fun t t0 t1 => by rw [wyS_s h3.1]; first | (rw [wyI_neg (by rw [← (hw2 v3 h3.1 (by omega)).1]; omega)]; exact hw2 t t0 t1) | (rw [wyI_pos (by rw [← (hw2 v3 h3.1 (by omega)).1]; have := wy_b10 (d := d) (a := 0) (b := 0) hsz (k := v3) (t := v3) ⟨h3.1, by omega⟩ ⟨h3.1, by omega⟩; rw [← (hw2 v3 h3.1 (by omega)).1] at this; omega), hE.1 t t0 t1, hE.2.1]; refine ⟨?_, (hw2 t t0 t1).2⟩; exact wyC_cd (fun u u0 u1 => (hw2 u u0 u1).1) hsz ⟨h3.1, by omega⟩ ⟨t0, t1⟩)) rfl
                · skip
                  refine x_aload_n (dtk dt_X6_countWays 52 (88, .aload_n 0, 1) rfl) rfl ?_
                  refine x_aload_n (dtk dt_X6_countWays 53 (89, .aload_n 1, 1) rfl) rfl ?_
                  refine x_iload_n (dtk dt_X6_countWays 54 (90, .iload_n 3, 1) rfl) rfl ?_
                  refine kc_X6_44 rfl (dtk dt_X6_countWays 55 (91, .invokevirtual 44, 3) rfl) (c_X6_spreadWays (G := G) (s := v3) (hO.off_sx hs2) (by omega)) rfl rfl (wk_9 hO.wf) (fitR (by decide) (by decide)) (Nat.le_of_ble_eq_true rfl) (uqK (fun M91_1 hs91_1 hE91_1 => ?_))
                  have hE := hE91_1
                  refine y_iinc (dtk dt_X6_countWays 56 (94, .iinc 3 1, 3) rfl) rfl (by decide) ⟨by omega, by omega⟩ ?_
                  refine x_goto (tgt := 74) (dtk dt_X6_countWays 57 (97, .goto (-23), 3) rfl) (by decide) ?_
                  refine MW.sub [1, 2, 3, 0] rfl ?_
                  exact ih74 _ (by omega) _ _ (by omega) (hs2.tr hs91_1) (by first | exact hk2 | (rw [hE.2.2]; exact hk2)) (fun t t0 t1 => by rw [wyS_s h3.1]; first | (rw [wyI_neg (by rw [← (hw2 v3 h3.1 (by omega)).1]; omega)]; exact hw2 t t0 t1) | (rw [wyI_pos (by rw [← (hw2 v3 h3.1 (by omega)).1]; have := wy_b10 (d := d) (a := 0) (b := 0) hsz (k := v3) (t := v3) ⟨h3.1, by omega⟩ ⟨h3.1, by omega⟩; rw [← (hw2 v3 h3.1 (by omega)).1] at this; omega), hE.1 t t0 t1, hE.2.1]; refine ⟨?_, (hw2 t t0 t1).2⟩; exact wyC_cd (fun u u0 u1 => (hw2 u u0 u1).1) hsz ⟨h3.1, by omega⟩ ⟨t0, t1⟩)) rfl
          refine MW.sub [1, 2, 3, 0] rfl ?_
          exact L74 _ _ _ (by omega) (sx.st 10 rfl hs1) (by rw [st2_ne _ (show (9 : Int) ≠ 10 by decide)]; exact hk1) (fun t t0 t1 => by rw [st2_up, st2_ne _ (show (11 : Int) ≠ 10 by decide)]; refine ⟨?_, (hw1 t t0 (by omega)).2⟩; show (if t = 0 then _ else _) = (if t = 0 then _ else _); split; rfl; exact (hw1 t t0 (by omega)).1) rfl
        · skip
          refine x_aload_n (dtk dt_X6_countWays 25 (45, .aload_n 0, 1) rfl) rfl ?_
          refine fg_X6_9 rfl (dtk dt_X6_countWays 26 (46, .getfield 9, 3) rfl) (wk_9 hO.wf) (wm_9_0 (hO.off_sx hs1).wf) ?_
          refine x_iload_n (dtk dt_X6_countWays 27 (49, .iload_n 3, 1) rfl) rfl ?_
          refine x_iconst (v := 0) ⟨by decide, by decide⟩ (dtk dt_X6_countWays 28 (50, .iconst 0, 1) rfl) ?_
          refine x_iast (dtk dt_X6_countWays 29 (51, .iastore, 1) rfl) (wk_10 hO.wf) ⟨by omega, by omega⟩ ?_
          refine x_aload_n (dtk dt_X6_countWays 30 (52, .aload_n 0, 1) rfl) rfl ?_
          refine fg_X6_15 rfl (dtk dt_X6_countWays 31 (53, .getfield 15, 3) rfl) (wk_9 hO.wf) (wm_9_1 (hO.off_sx (sx.st 10 rfl hs1)).wf) ?_
          refine x_iload_n (dtk dt_X6_countWays 32 (56, .iload_n 3, 1) rfl) rfl ?_
          refine x_iconst (v := 0) ⟨by decide, by decide⟩ (dtk dt_X6_countWays 33 (57, .iconst 0, 1) rfl) ?_
          refine x_iast (dtk dt_X6_countWays 34 (58, .iastore, 1) rfl) (wk_11 hO.wf) ⟨by omega, by omega⟩ ?_
          refine y_iinc (dtk dt_X6_countWays 35 (59, .iinc 3 1, 3) rfl) rfl (by decide) ⟨by omega, by omega⟩ ?_
          refine x_goto (tgt := 40) (dtk dt_X6_countWays 36 (62, .goto (-22), 3) rfl) (by decide) ?_
          refine MW.sub [1, 2, 3, 0] rfl ?_
          exact ih40 _ (by omega) _ _ (by omega) (sx.st 11 rfl (sx.st 10 rfl hs1)) (by rw [st2_ne _ (show (9 : Int) ≠ 11 by decide), st2_ne _ (show (9 : Int) ≠ 10 by decide)]; exact hk1) (fun t t0 t1 => by rw [st2_ne _ (show (10 : Int) ≠ 11 by decide), st2_up, st2_up, st2_ne _ (show (11 : Int) ≠ 10 by decide)]; unfold up; by_cases hq : t = v3; (rw [if_pos hq, if_pos hq]; exact ⟨rfl, rfl⟩); (rw [if_neg hq, if_neg hq]; exact hw1 t t0 (by omega))) rfl
    refine MW.sub [2, 3, 1, 0] rfl ?_
    exact L40 _ _ _ (by omega) (sx.fd 9 5 rfl (sx.fd 9 4 rfl sx.rf)) (by simp [st2]) (fun t t0 t1 => by omega) rfl
  refine x_aload_n (dtk dt_X6_countWays 0 (0, .aload_n 0, 1) rfl) rfl ?_
  refine fg_X6_24 rfl (dtk dt_X6_countWays 1 (1, .getfield 24, 3) rfl) (wk_9 hO.wf) rfl ?_
  refine x_aload_n (dtk dt_X6_countWays 2 (4, .aload_n 1, 1) rfl) rfl ?_
  refine x_acmp_ne (dtk dt_X6_countWays 3 (5, .if_acmp .ne 15, 3) rfl) hR9 (by omega) (tgt := 20) (by decide) (fun c5 => ?_) (fun c5 => ?_)
  · skip
    refine MW.sub [0, 1] rfl ?_
    exact J20_2  trivial
  · skip
    refine x_aload_n (dtk dt_X6_countWays 4 (8, .aload_n 0, 1) rfl) rfl ?_
    refine fg_X6_28 rfl (dtk dt_X6_countWays 5 (9, .getfield 28, 3) rfl) (wk_9 hO.wf) rfl ?_
    refine x_aload_n (dtk dt_X6_countWays 6 (12, .aload_n 1, 1) rfl) rfl ?_
    refine fg_X6_37 rfl (dtk dt_X6_countWays 7 (13, .getfield 37, 3) rfl) hO.k hO.c hO.pc ?_
    refine x_icmp_ne (tgt := 20) (dtk dt_X6_countWays 8 (16, .if_icmp .ne 4, 3) rfl) (by decide) (fun c16 => ?_) (fun c16 => ?_)
    · skip
      refine MW.sub [0, 1] rfl ?_
      exact J20_2  trivial
    · skip
      have hcw := RC.at hO hR c5 (by omega)
      exact ru_v (dtk dt_X6_countWays 9 (19, .return_, 1) rfl) rfl sx.rf ⟨hR, hcw⟩
