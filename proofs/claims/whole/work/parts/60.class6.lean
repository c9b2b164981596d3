/-! ===== the class: maps ===== -/
set_option maxRecDepth 100000 in
set_option maxHeartbeats 4000000 in
theorem c_X7_canBe {G : GG} {n : Nat} {K : KK} {M : MM} {t c : Int} {p nm m : Int} {ci : Nat} {d : Int → Int} {q nm2 : Int} {cj : Nat} {e : Int → Int} (hO : OB K M p ci nm m d) (hQ : OB K M q cj nm2 m e) (ht : 0 ≤ t ∧ t < m) (hc : 0 ≤ c ∧ c < m) (hx : ∀ i, 0 ≤ i → i < t → 0 ≤ M 22 i ∧ M 22 i < m) : MC G mi_X7_canBe 4 0 0 [(1, 18), (1, p), (1, q), (0, t), (0, c)] n K M (PQ (some (0, B (decide (M 23 t = M 24 c) && allB t (fun a => (rel d a t == rel e (M 22 a) c) && (rel d t a == rel e c (M 22 a)))))) n K (M)) := by
  refine MC.intro (lc := [(0, (1, 18)), (1, (1, p)), (2, (1, q)), (3, (0, t)), (4, (0, c))]) (by decide) rfl (by simp [Nat.ble]) (Nat.le_of_ble_eq_true rfl) rfl (fun hMR => ?_)
  have hsz := hO.sz
  refine x_aload_n (dtk dt_X7_canBe 0 (0, .aload_n 0, 1) rfl) rfl ?_
  refine fg_X7_27 rfl (dtk dt_X7_canBe 1 (1, .getfield 27, 3) rfl) (wk_18 hO.wf) (wm_18_3 hO.wf) ?_
  refine x_iload_n (dtk dt_X7_canBe 2 (4, .iload_n 3, 1) rfl) rfl ?_
  refine x_iald (dtk dt_X7_canBe 3 (5, .iaload, 1) rfl) (wk_23 hO.wf) ⟨by omega, by omega⟩ ?_
  refine x_aload_n (dtk dt_X7_canBe 4 (6, .aload_n 0, 1) rfl) rfl ?_
  refine fg_X7_30 rfl (dtk dt_X7_canBe 5 (7, .getfield 30, 3) rfl) (wk_18 hO.wf) (wm_18_4 hO.wf) ?_
  refine x_iload (dtk dt_X7_canBe 6 (10, .iload 4, 2) rfl) rfl ?_
  refine x_iald (dtk dt_X7_canBe 7 (12, .iaload, 1) rfl) (wk_24 hO.wf) ⟨by omega, by omega⟩ ?_
  refine x_icmp_eq (tgt := 18) (dtk dt_X7_canBe 8 (13, .if_icmp .eq 5, 3) rfl) (by decide) (fun c13 => ?_) (fun c13 => ?_)
  · skip
    refine x_iconst (v := 0) ⟨by decide, by decide⟩ (dtk dt_X7_canBe 11 (18, .iconst 0, 1) rfl) ?_
    refine x_istore (dtk dt_X7_canBe 12 (19, .istore 5, 2) rfl) (by decide) ?_
    have L21 : ∀ (fu : Nat) (v5 : Int), (0 ≤ v5 ∧ v5 ≤ t) → (allB v5 (fun a => (rel d a t == rel e (M 22 a) c) && (rel d t a == rel e c (M 22 a))) = true) → (t - v5).toNat = fu → MW G mi_X7_canBe (rmd 4 0 0) (MZ G (PQ (some (0, B (decide (M 23 t = M 24 c) && allB t (fun a => (rel d a t == rel e (M 22 a) c) && (rel d t a == rel e c (M 22 a)))))) n K (M)) 0 0) (0, 0) 21 [(0, (1, 18)), (1, (1, p)), (2, (1, q)), (3, (0, t)), (4, (0, c)), (5, (0, v5))] [] n K (M) := by
      intro fu
      induction fu using Nat.strongRecOn with
      | ind fu ih21 =>
        intro v5 h1 h3 hk21
        refine x_iload (dtk dt_X7_canBe 13 (21, .iload 5, 2) rfl) rfl ?_
        refine x_iload_n (dtk dt_X7_canBe 14 (23, .iload_n 3, 1) rfl) rfl ?_
        refine x_icmp_ge (tgt := 81) (dtk dt_X7_canBe 15 (24, .if_icmp .ge 57, 3) rfl) (by decide) (fun c24 => ?_) (fun c24 => ?_)
        · skip
          refine x_iconst (v := 1) ⟨by decide, by decide⟩ (dtk dt_X7_canBe 44 (81, .iconst 1, 1) rfl) ?_
          exact r_b (b := true) (dtk dt_X7_canBe 45 (82, .ireturn, 1) rfl) rfl (by rw [show v5 = t by omega] at h3; rw [h3, decide_eq_true (by omega)]; rfl) rfl
        · skip
          have hx5 := hx v5 h1.1 (by omega)
          refine x_aload_n (dtk dt_X7_canBe 16 (27, .aload_n 1, 1) rfl) rfl ?_
          refine x_iload (dtk dt_X7_canBe 17 (28, .iload 5, 2) rfl) rfl ?_
          refine x_iload_n (dtk dt_X7_canBe 18 (30, .iload_n 3, 1) rfl) rfl ?_
          refine kc_X7_137 rfl (dtk dt_X7_canBe 19 (31, .invokevirtual 137, 3) rfl) (c_X4_isBelow (G := G) (p := p) hO (by omega) (by omega)) rfl rfl hO.k hO.c (fitR (by decide) (by decide)) (Nat.le_of_ble_eq_true rfl) (pqK ?_)
          refine x_aload_n (dtk dt_X7_canBe 20 (34, .aload_n 2, 1) rfl) rfl ?_
          refine x_aload_n (dtk dt_X7_canBe 21 (35, .aload_n 0, 1) rfl) rfl ?_
          refine fg_X7_24 rfl (dtk dt_X7_canBe 22 (36, .getfield 24, 3) rfl) (wk_18 hO.wf) (wm_18_2 hO.wf) ?_
          refine x_iload (dtk dt_X7_canBe 23 (39, .iload 5, 2) rfl) rfl ?_
          refine x_iald (dtk dt_X7_canBe 24 (41, .iaload, 1) rfl) (wk_22 hO.wf) ⟨by omega, by omega⟩ ?_
          refine x_iload (dtk dt_X7_canBe 25 (42, .iload 4, 2) rfl) rfl ?_
          refine kc_X7_137 rfl (dtk dt_X7_canBe 26 (44, .invokevirtual 137, 3) rfl) (c_X4_isBelow (G := G)  hQ (by omega) (by omega)) rfl rfl hQ.k hQ.c (fitR (by decide) (by decide)) (Nat.le_of_ble_eq_true rfl) (pqK ?_)
          refine x_icmp_ne (tgt := 73) (dtk dt_X7_canBe 27 (47, .if_icmp .ne 26, 3) rfl) (by decide) (fun c47 => ?_) (fun c47 => ?_)
          · skip
            refine x_iconst (v := 0) ⟨by decide, by decide⟩ (dtk dt_X7_canBe 40 (73, .iconst 0, 1) rfl) ?_
            exact r_b (b := false) (dtk dt_X7_canBe 41 (74, .ireturn, 1) rfl) rfl (by symm; rw [Bool.eq_false_iff]; intro hq; rw [Bool.and_eq_true, allB_iff] at hq; have hz := hq.2 v5 h1.1 (by omega); rw [Bool.and_eq_true, beq_iff_eq, beq_iff_eq] at hz; first | (rw [B_iff] at c70; exact c70 hz.2) | (rw [Ne, B_iff] at c47; exact c47 hz.1)) rfl
          · skip
            refine x_aload_n (dtk dt_X7_canBe 28 (50, .aload_n 1, 1) rfl) rfl ?_
            refine x_iload_n (dtk dt_X7_canBe 29 (51, .iload_n 3, 1) rfl) rfl ?_
            refine x_iload (dtk dt_X7_canBe 30 (52, .iload 5, 2) rfl) rfl ?_
            refine kc_X7_137 rfl (dtk dt_X7_canBe 31 (54, .invokevirtual 137, 3) rfl) (c_X4_isBelow (G := G)  hO (by omega) (by omega)) rfl rfl hO.k hO.c (fitR (by decide) (by decide)) (Nat.le_of_ble_eq_true rfl) (pqK ?_)
            refine x_aload_n (dtk dt_X7_canBe 32 (57, .aload_n 2, 1) rfl) rfl ?_
            refine x_iload (dtk dt_X7_canBe 33 (58, .iload 4, 2) rfl) rfl ?_
            refine x_aload_n (dtk dt_X7_canBe 34 (60, .aload_n 0, 1) rfl) rfl ?_
            refine fg_X7_24 rfl (dtk dt_X7_canBe 35 (61, .getfield 24, 3) rfl) (wk_18 hO.wf) (wm_18_2 hO.wf) ?_
            refine x_iload (dtk dt_X7_canBe 36 (64, .iload 5, 2) rfl) rfl ?_
            refine x_iald (dtk dt_X7_canBe 37 (66, .iaload, 1) rfl) (wk_22 hO.wf) ⟨by omega, by omega⟩ ?_
            refine kc_X7_137 rfl (dtk dt_X7_canBe 38 (67, .invokevirtual 137, 3) rfl) (c_X4_isBelow (G := G)  hQ (by omega) (by omega)) rfl rfl hQ.k hQ.c (fitR (by decide) (by decide)) (Nat.le_of_ble_eq_true rfl) (pqK ?_)
            refine x_icmp_eq (tgt := 75) (dtk dt_X7_canBe 39 (70, .if_icmp .eq 5, 3) rfl) (by decide) (fun c70 => ?_) (fun c70 => ?_)
            · skip
              refine y_iinc (dtk dt_X7_canBe 42 (75, .iinc 5 1, 3) rfl) rfl (by decide) ⟨by omega, by omega⟩ ?_
              refine x_goto (tgt := 21) (dtk dt_X7_canBe 43 (78, .goto (-57), 3) rfl) (by decide) ?_
              refine MW.sub [1, 2, 3, 4, 5, 0] rfl ?_
              exact ih21 _ (by omega) _ (by omega) (by rw [allB_s h1.1, h3]; rw [B_iff.mp (Classical.not_not.mp c47), B_iff.mp c70]; simp) rfl
            · skip
              refine x_iconst (v := 0) ⟨by decide, by decide⟩ (dtk dt_X7_canBe 40 (73, .iconst 0, 1) rfl) ?_
              exact r_b (b := false) (dtk dt_X7_canBe 41 (74, .ireturn, 1) rfl) rfl (by symm; rw [Bool.eq_false_iff]; intro hq; rw [Bool.and_eq_true, allB_iff] at hq; have hz := hq.2 v5 h1.1 (by omega); rw [Bool.and_eq_true, beq_iff_eq, beq_iff_eq] at hz; first | (rw [B_iff] at c70; exact c70 hz.2) | (rw [Ne, B_iff] at c47; exact c47 hz.1)) rfl
    refine MW.sub [1, 2, 3, 4, 5, 0] rfl ?_
    exact L21 _ _ (by omega) rfl rfl
  · skip
    refine x_iconst (v := 0) ⟨by decide, by decide⟩ (dtk dt_X7_canBe 9 (16, .iconst 0, 1) rfl) ?_
    exact r_b (b := false) (dtk dt_X7_canBe 10 (17, .ireturn, 1) rfl) rfl (by rw [decide_eq_false c13]; rfl) rfl
set_option maxRecDepth 100000 in
set_option maxHeartbeats 4000000 in
theorem c_X7_growMap {G : GG} {n : Nat} {K : KK} {p nm m q nm2 : Int} {ci cj : Nat} {d e : Int → Int} : ∀ (kk : Nat) {M : MM} {tk t : Int}, (OB K M p ci nm m d) → (OB K M q cj nm2 m e) → (t + kk = m) → (0 ≤ t) → (tk = hadS (M 22) t) → (∀ i, 0 ≤ i → i < t → 0 ≤ M 22 i ∧ M 22 i < m) → MC G mi_X7_growMap (5 + kk) 0 0 [(1, 18), (1, p), (1, q), (0, tk), (0, t)] n K M (UQ sx (some (0, B ((srN m m (gmP d e (M 23) (M 24)) kk t (M 22)).isSome))) n K M (fun M' => (∀ x, x ≠ 22 → M' x = M x) ∧ (∀ i, 0 ≤ i → i < t → M' 22 i = M 22 i) ∧ ∀ z, srN m m (gmP d e (M 23) (M 24)) kk t (M 22) = some z → ∀ i, 0 ≤ i → i < m → M' 22 i = z i)) := by
  intro kk
  induction kk using Nat.strongRecOn with
  | ind kk ihR =>
  intro M tk t hO hQ hkk ht hs hx
  refine MC.intro (lc := [(0, (1, 18)), (1, (1, p)), (2, (1, q)), (3, (0, tk)), (4, (0, t))]) (by decide) rfl (by simp [Nat.ble]) (Nat.le_of_ble_eq_true rfl) rfl (fun hMR => ?_)
  have hsz := hO.sz
  have hhp := hadS_p2 (x := M 22) (m := m) hsz
  have hhb := hadS_b (x := M 22) t.toNat (fun i i0 i1 => by have := hx i i0 (by omega); omega)
  rw [show ((t.toNat : Nat) : Int) = t by omega, ← hs] at hhb
  refine x_iload (dtk dt_X7_growMap 0 (0, .iload 4, 2) rfl) rfl ?_
  refine x_aload_n (dtk dt_X7_growMap 1 (2, .aload_n 1, 1) rfl) rfl ?_
  refine fg_X7_58 rfl (dtk dt_X7_growMap 2 (3, .getfield 58, 3) rfl) hO.k hO.c hO.n ?_
  refine x_icmp_lt (tgt := 11) (dtk dt_X7_growMap 3 (6, .if_icmp .lt 5, 3) rfl) (by decide) (fun c6 => ?_) (fun c6 => ?_)
  · skip
    refine x_iconst (v := 0) ⟨by decide, by decide⟩ (dtk dt_X7_growMap 6 (11, .iconst 0, 1) rfl) ?_
    refine x_istore (dtk dt_X7_growMap 7 (12, .istore 5, 2) rfl) (by decide) ?_
    have L14 : ∀ (fu : Nat) (v5 : Int) (M1 : MM), (0 ≤ v5 ∧ v5 ≤ m) → (sx M M1) → (∀ x, x ≠ 22 → M1 x = M x) → (∀ i, 0 ≤ i → i < t → M1 22 i = M 22 i) → (tryC (fun c => if gmP d e (M 23) (M 24) (M 22) t c then srN m m (gmP d e (M 23) (M 24)) (kk - 1) (t + 1) (up (M 22) t c) else none) (m - v5).toNat v5 = srN m m (gmP d e (M 23) (M 24)) kk t (M 22)) → (m - v5).toNat = fu → MW G mi_X7_growMap (rmd (5 + kk) 0 0) (MZ G (UQ sx (some (0, B ((srN m m (gmP d e (M 23) (M 24)) kk t (M 22)).isSome))) n K M (fun M' => (∀ x, x ≠ 22 → M' x = M x) ∧ (∀ i, 0 ≤ i → i < t → M' 22 i = M 22 i) ∧ ∀ z, srN m m (gmP d e (M 23) (M 24)) kk t (M 22) = some z → ∀ i, 0 ≤ i → i < m → M' 22 i = z i)) 0 0) (0, 0) 14 [(0, (1, 18)), (1, (1, p)), (2, (1, q)), (3, (0, tk)), (4, (0, t)), (5, (0, v5))] [] n K (M1) := by
      intro fu
      induction fu using Nat.strongRecOn with
      | ind fu ih14 =>
        intro v5 M1 h1 hs1 ho1 hi1 h2 hk14
        refine x_iload (dtk dt_X7_growMap 8 (14, .iload 5, 2) rfl) rfl ?_
        refine x_aload_n (dtk dt_X7_growMap 9 (16, .aload_n 1, 1) rfl) rfl ?_
        refine fg_X7_58 rfl (dtk dt_X7_growMap 10 (17, .getfield 58, 3) rfl) hO.k hO.c (hO.off_sx hs1).n ?_
        refine x_icmp_ge (tgt := 81) (dtk dt_X7_growMap 11 (20, .if_icmp .ge 61, 3) rfl) (by decide) (fun c20 => ?_) (fun c20 => ?_)
        · skip
          refine x_iconst (v := 0) ⟨by decide, by decide⟩ (dtk dt_X7_growMap 47 (81, .iconst 0, 1) rfl) ?_
          exact ru_b (b := false) (dtk dt_X7_growMap 48 (82, .ireturn, 1) rfl) rfl (by rw [← h2, tryC_e (by omega)]; rfl) hs1 ⟨ho1, hi1, fun z hz => by (rw [← h2, tryC_e (by omega)] at hz; cases hz)⟩
        · skip
          refine x_iload_n (dtk dt_X7_growMap 12 (23, .iload_n 3, 1) rfl) rfl ?_
          refine x_iload (dtk dt_X7_growMap 13 (24, .iload 5, 2) rfl) rfl ?_
          refine x_ishr (dtk dt_X7_growMap 14 (26, .ishr, 1) rfl) ?_
          refine x_iconst (v := 1) ⟨by decide, by decide⟩ (dtk dt_X7_growMap 15 (27, .iconst 1, 1) rfl) ?_
          refine x_iand (dtk dt_X7_growMap 16 (28, .iand, 1) rfl) ?_
          rw [zbit (nn10 hhb) ⟨by omega, by omega⟩]
          change MW G _ _ _ _ _ _ ((0, B (bt (tk) (v5))) :: _) _ _ _
          refine x_if_neB (tgt := 75) (dtk dt_X7_growMap 17 (29, .ifCond .ne 46, 3) rfl) (by decide) (fun c29 => ?_) (fun c29 => ?_)
          · skip
            refine y_iinc (dtk dt_X7_growMap 45 (75, .iinc 5 1, 3) rfl) rfl (by decide) ⟨by omega, by omega⟩ ?_
            refine x_goto (tgt := 14) (dtk dt_X7_growMap 46 (78, .goto (-64), 3) rfl) (by decide) ?_
            refine MW.sub [1, 2, 3, 4, 5, 0] rfl ?_
            exact ih14 _ (by omega) _ _ (by omega) hs1 (by first | exact ho1 | exact (fun x hx => (hE.1 x hx).trans ((st2_ne _ hx).trans (ho1 x hx)))) (by first | exact hi1 | exact (fun i i0 i1 => by rw [hE.2.1 i i0 (by omega), st2_up]; exact (if_neg (by omega)).trans (hi1 i i0 i1))) (by rw [tryC_s (by omega)] at h2; rw [← h2]; first | (rw [if_pos hgp, hnone, Option.none_or]; done) | (rw [if_neg (show ¬ gmP d e (M 23) (M 24) (M 22) t v5 = true from by unfold gmP; rw [← hs]; first | (rw [c42]; simp; done) | (rw [c29]; simp; done)), Option.none_or])) rfl
          · skip
            refine x_aload_n (dtk dt_X7_growMap 18 (32, .aload_n 0, 1) rfl) rfl ?_
            refine x_aload_n (dtk dt_X7_growMap 19 (33, .aload_n 1, 1) rfl) rfl ?_
            refine x_aload_n (dtk dt_X7_growMap 20 (34, .aload_n 2, 1) rfl) rfl ?_
            refine x_iload (dtk dt_X7_growMap 21 (35, .iload 4, 2) rfl) rfl ?_
            refine x_iload (dtk dt_X7_growMap 22 (37, .iload 5, 2) rfl) rfl ?_
            refine kc_X7_134 rfl (dtk dt_X7_growMap 23 (39, .invokevirtual 134, 3) rfl) (c_X7_canBe (G := G)  (hO.off_sx hs1) (hQ.off_sx hs1) (by omega) (by omega) (fun i i0 i1 => by rw [hi1 i i0 i1]; exact hx i i0 i1)) rfl rfl (wk_18 hO.wf) (fitR (by omega) (by decide)) (Nat.le_of_ble_eq_true rfl) (pqK ?_)
            have hcb : (decide (M1 23 t = M1 24 v5) && allB t (fun a => (rel d a t == rel e (M1 22 a) v5) && (rel d t a == rel e v5 (M1 22 a)))) = (decide (M 23 t = M 24 v5) && allB t (fun a => (rel d a t == rel e (M 22 a) v5) && (rel d t a == rel e v5 (M 22 a)))) := by (rw [ho1 23 (by decide), ho1 24 (by decide), allB_congr (fun a a0 a1 => by rw [hi1 a a0 a1])])
            rw [hcb]
            refine x_if_eqB (tgt := 75) (dtk dt_X7_growMap 24 (42, .ifCond .eq 33, 3) rfl) (by decide) (fun c42 => ?_) (fun c42 => ?_)
            · skip
              refine y_iinc (dtk dt_X7_growMap 45 (75, .iinc 5 1, 3) rfl) rfl (by decide) ⟨by omega, by omega⟩ ?_
              refine x_goto (tgt := 14) (dtk dt_X7_growMap 46 (78, .goto (-64), 3) rfl) (by decide) ?_
              refine MW.sub [1, 2, 3, 4, 5, 0] rfl ?_
              exact ih14 _ (by omega) _ _ (by omega) hs1 (by first | exact ho1 | exact (fun x hx => (hE.1 x hx).trans ((st2_ne _ hx).trans (ho1 x hx)))) (by first | exact hi1 | exact (fun i i0 i1 => by rw [hE.2.1 i i0 (by omega), st2_up]; exact (if_neg (by omega)).trans (hi1 i i0 i1))) (by rw [tryC_s (by omega)] at h2; rw [← h2]; first | (rw [if_pos hgp, hnone, Option.none_or]; done) | (rw [if_neg (show ¬ gmP d e (M 23) (M 24) (M 22) t v5 = true from by unfold gmP; rw [← hs]; first | (rw [c42]; simp; done) | (rw [c29]; simp; done)), Option.none_or])) rfl
            · skip
              have hgp : gmP d e (M 23) (M 24) (M 22) t v5 = true := by (unfold gmP; rw [← hs, c29, c42]; rfl)
              refine x_aload_n (dtk dt_X7_growMap 25 (45, .aload_n 0, 1) rfl) rfl ?_
              refine fg_X7_24 rfl (dtk dt_X7_growMap 26 (46, .getfield 24, 3) rfl) (wk_18 hO.wf) (wm_18_2 (hO.off_sx hs1).wf) ?_
              refine x_iload (dtk dt_X7_growMap 27 (49, .iload 4, 2) rfl) rfl ?_
              refine x_iload (dtk dt_X7_growMap 28 (51, .iload 5, 2) rfl) rfl ?_
              refine x_iast (dtk dt_X7_growMap 29 (53, .iastore, 1) rfl) (wk_22 hO.wf) ⟨by omega, by omega⟩ ?_
              refine x_aload_n (dtk dt_X7_growMap 30 (54, .aload_n 0, 1) rfl) rfl ?_
              refine x_aload_n (dtk dt_X7_growMap 31 (55, .aload_n 1, 1) rfl) rfl ?_
              refine x_aload_n (dtk dt_X7_growMap 32 (56, .aload_n 2, 1) rfl) rfl ?_
              refine x_iload_n (dtk dt_X7_growMap 33 (57, .iload_n 3, 1) rfl) rfl ?_
              refine x_iconst (v := 1) ⟨by decide, by decide⟩ (dtk dt_X7_growMap 34 (58, .iconst 1, 1) rfl) ?_
              refine x_iload (dtk dt_X7_growMap 35 (59, .iload 5, 2) rfl) rfl ?_
              refine x_ishl (dtk dt_X7_growMap 36 (61, .ishl, 1) rfl) ?_
              refine x_ior (dtk dt_X7_growMap 37 (62, .ior, 1) rfl) ?_
              change MW G _ _ _ _ _ _ ((0, plus tk v5) :: _) _ _ _
              refine x_iload (dtk dt_X7_growMap 38 (63, .iload 4, 2) rfl) rfl ?_
              refine x_iconst (v := 1) ⟨by decide, by decide⟩ (dtk dt_X7_growMap 39 (65, .iconst 1, 1) rfl) ?_
              refine y_iadd (dtk dt_X7_growMap 40 (66, .iadd, 1) rfl) ⟨by omega, by omega⟩ ?_
              refine kc_X7_126 rfl (dtk dt_X7_growMap 41 (67, .invokevirtual 126, 3) rfl) (ihR (kk - 1) (by omega) (M := st2 M1 22 t v5) (tk := plus tk v5) (t := t + 1) (hO.off_sx (sx.st 22 rfl hs1)) (hQ.off_sx (sx.st 22 rfl hs1)) (by omega) (by omega) (by rw [st2_up, hadS_up ht, hs, hadS_congr (x := M1 22) (y := M 22) (t := t) hi1]) (fun i i0 i1 => by rw [st2_up]; show 0 ≤ (if i = t then v5 else M1 22 i) ∧ (if i = t then v5 else M1 22 i) < m; split; omega; (rw [hi1 i i0 (by omega)]; exact hx i i0 (by omega)))) rfl rfl (wk_18 hO.wf) (fitR (by omega) (by decide)) (Nat.le_of_ble_eq_true rfl) (uqK (fun M67_1 hs67_1 hE67_1 => ?_))
              have hE := hE67_1
              have hsr : srN m m (gmP d e (st2 M1 22 t v5 23) (st2 M1 22 t v5 24)) (kk - 1) (t + 1) (st2 M1 22 t v5 22) = srN m m (gmP d e (M 23) (M 24)) (kk - 1) (t + 1) (up (M 22) t v5) := by (rw [st2_ne _ (show (23 : Int) ≠ 22 by decide), st2_ne _ (show (24 : Int) ≠ 22 by decide), ho1 23 (by decide), ho1 24 (by decide), st2_up]; exact srN_congr (gmP_loc d e _ _) _ _ _ _ (by omega) (fun i i0 i1 => by unfold up; split; rfl; exact hi1 i i0 (by omega)))
              rw [hsr] at hE
              rw [hsr]
              refine x_if_eqB (tgt := 75) (dtk dt_X7_growMap 42 (70, .ifCond .eq 5, 3) rfl) (by decide) (fun c70 => ?_) (fun c70 => ?_)
              · skip
                have hnone : srN m m (gmP d e (M 23) (M 24)) (kk - 1) (t + 1) (up (M 22) t v5) = none := Option.isSome_eq_false_iff.mp c70 |> Option.isNone_iff_eq_none.mp
                refine y_iinc (dtk dt_X7_growMap 45 (75, .iinc 5 1, 3) rfl) rfl (by decide) ⟨by omega, by omega⟩ ?_
                refine x_goto (tgt := 14) (dtk dt_X7_growMap 46 (78, .goto (-64), 3) rfl) (by decide) ?_
                refine MW.sub [1, 2, 3, 4, 5, 0] rfl ?_
                exact ih14 _ (by omega) _ _ (by omega) ((sx.st 22 rfl hs1).tr hs67_1) (by first | exact ho1 | exact (fun x hx => (hE.1 x hx).trans ((st2_ne _ hx).trans (ho1 x hx)))) (by first | exact hi1 | exact (fun i i0 i1 => by rw [hE.2.1 i i0 (by omega), st2_up]; exact (if_neg (by omega)).trans (hi1 i i0 i1))) (by rw [tryC_s (by omega)] at h2; rw [← h2]; first | (rw [if_pos hgp, hnone, Option.none_or]; done) | (rw [if_neg (show ¬ gmP d e (M 23) (M 24) (M 22) t v5 = true from by unfold gmP; rw [← hs]; first | (rw [c42]; simp; done) | (rw [c29]; simp; done)), Option.none_or])) rfl
              · skip
                have hsome : srN m m (gmP d e (M 23) (M 24)) kk t (M 22) = srN m m (gmP d e (M 23) (M 24)) (kk - 1) (t + 1) (up (M 22) t v5) := by (rw [← h2, tryC_s (by omega), if_pos hgp]; obtain ⟨z, hz⟩ := Option.isSome_iff_exists.mp c70; rw [hz]; rfl)
                refine x_iconst (v := 1) ⟨by decide, by decide⟩ (dtk dt_X7_growMap 43 (73, .iconst 1, 1) rfl) ?_
                exact ru_b (b := true) (dtk dt_X7_growMap 44 (74, .ireturn, 1) rfl) rfl (by rw [hsome, c70]) ((sx.st 22 rfl hs1).tr hs67_1) ⟨fun x hx => (hE.1 x hx).trans ((st2_ne _ hx).trans (ho1 x hx)), fun i i0 i1 => by (rw [hE.2.1 i i0 (by omega), st2_up]; exact (if_neg (by omega)).trans (hi1 i i0 i1)), fun z hz => hE.2.2 z (by rw [← hsome]; exact hz)⟩
    refine MW.sub [1, 2, 3, 4, 5, 0] rfl ?_
    exact L14 _ _ _ (by omega) sx.rf (fun x hx => rfl) (fun i _ _ => rfl) (by rw [show kk = (kk - 1) + 1 by omega, Int.sub_zero]; rfl) rfl
  · skip
    refine x_iconst (v := 1) ⟨by decide, by decide⟩ (dtk dt_X7_growMap 4 (9, .iconst 1, 1) rfl) ?_
    exact ru_b (b := true) (dtk dt_X7_growMap 5 (10, .ireturn, 1) rfl) rfl (by rw [show kk = 0 by omega]; rfl) sx.rf ⟨fun x hx => rfl, fun i _ _ => rfl, fun z hz i i0 i1 => by (rw [show kk = 0 by omega] at hz; rw [← Option.some.inj hz]; unfold nrm; rw [if_pos ⟨i0, i1⟩])⟩
