/-! ===== the class: pairs, dropping, laying ===== -/
set_option maxRecDepth 100000 in
set_option maxHeartbeats 4000000 in
theorem c_X4_findPath {G : GG} {n : Nat} {K : KK} {M : MM} {x y : Int} {p nm m : Int} {ci : Nat} {d : Int → Int} (hO : OB K M p ci nm m d) (hP : PO m d) (hx : 0 ≤ x ∧ x < m) (hy : 0 ≤ y ∧ y < m) (hr : rel d x y = true) : MC G mi_X4_findPath 8 0 0 [(1, p), (0, x), (0, y), (1, 2)] n K M (UQ sp none n K M (fun M' => M' 2 1 = dst m d x y + 1 ∧ ∀ i, 0 ≤ i → i ≤ dst m d x y → M' 3 i = pth m d y x i)) := by
  refine MC.intro (lc := [(0, (1, p)), (1, (0, x)), (2, (0, y)), (3, (1, 2))]) (by decide) rfl (by simp [Nat.ble]) (Nat.le_of_ble_eq_true rfl) rfl (fun hMR => ?_)
  have hsz := hO.sz
  have hD := dst_below hP hy hx hr
  refine x_aload_n (dtk dt_X4_findPath 0 (0, .aload_n 3, 1) rfl) rfl ?_
  refine kc_X4_90 rfl (dtk dt_X4_findPath 1 (1, .invokevirtual 90, 3) rfl) (c_X3_empty0 (G := G)  (wk_2 hO.wf)) rfl rfl (wk_2 hO.wf) (fitR (by decide) (by decide)) (Nat.le_of_ble_eq_true rfl) (pqK ?_)
  refine x_aload_n (dtk dt_X4_findPath 2 (4, .aload_n 0, 1) rfl) rfl ?_
  refine x_iload_n (dtk dt_X4_findPath 3 (5, .iload_n 1, 1) rfl) rfl ?_
  refine x_iload_n (dtk dt_X4_findPath 4 (6, .iload_n 2, 1) rfl) rfl ?_
  refine kc_X4_93 rfl (dtk dt_X4_findPath 5 (7, .invokevirtual 93, 3) rfl) (c_X4_stepsTo (G := G)  (hO.off_sp (sp.emp sp.rf)) (by omega) (by omega)) rfl rfl hO.k hO.c (fitR (by decide) (by decide)) (Nat.le_of_ble_eq_true rfl) (pqK ?_)
  refine x_istore (dtk dt_X4_findPath 6 (10, .istore 4, 2) rfl) (by decide) ?_
  refine x_iload_n (dtk dt_X4_findPath 7 (12, .iload_n 1, 1) rfl) rfl ?_
  refine x_istore (dtk dt_X4_findPath 8 (13, .istore 5, 2) rfl) (by decide) ?_
  refine x_aload_n (dtk dt_X4_findPath 9 (15, .aload_n 3, 1) rfl) rfl ?_
  refine x_iload (dtk dt_X4_findPath 10 (16, .iload 5, 2) rfl) rfl ?_
  refine kc_X4_37 rfl (dtk dt_X4_findPath 11 (18, .invokevirtual 37, 3) rfl) (c_X3_add (G := G)  (ln_2 (hO.off_sp (sp.emp sp.rf)).wf (by rw [st2_self]; omega))) rfl rfl (wk_2 hO.wf) (fitR (by decide) (by decide)) (Nat.le_of_ble_eq_true rfl) (pqK ?_)
  rw [add_2 (by rw [st2_self]; omega), st2_self]
  refine x_iload (dtk dt_X4_findPath 12 (21, .iload 4, 2) rfl) rfl ?_
  refine x_iconst (v := 1) ⟨by decide, by decide⟩ (dtk dt_X4_findPath 13 (23, .iconst 1, 1) rfl) ?_
  refine y_isub (dtk dt_X4_findPath 14 (24, .isub, 1) rfl) ⟨by omega, by omega⟩ ?_
  refine x_istore (dtk dt_X4_findPath 15 (25, .istore 6, 2) rfl) (by decide) ?_
  have L27 : ∀ (fu : Nat) (v5 : Int) (v6 : Int) (M1 : MM), (-1 ≤ v6 ∧ v6 ≤ dst m d x y - 1) → (sp M M1) → (M1 2 1 = dst m d x y - v6) → (v5 = pth m d y x (dst m d x y - 1 - v6)) → (∀ i, 0 ≤ i → i < dst m d x y - v6 → M1 3 i = pth m d y x i) → (v6 + 1).toNat = fu → MW G mi_X4_findPath (rmd 8 0 0) (MZ G (UQ sp none n K M (fun M' => M' 2 1 = dst m d x y + 1 ∧ ∀ i, 0 ≤ i → i ≤ dst m d x y → M' 3 i = pth m d y x i)) 0 0) (0, 0) 27 [(0, (1, p)), (1, (0, x)), (2, (0, y)), (3, (1, 2)), (4, (0, dst m d x y)), (5, (0, v5)), (6, (0, v6))] [] n K (M1) := by
    intro fu
    induction fu using Nat.strongRecOn with
    | ind fu ih27 =>
      intro v5 v6 M1 h1 hs1 h2 h3 h4 hk27
      refine x_iload (dtk dt_X4_findPath 16 (27, .iload 6, 2) rfl) rfl ?_
      refine x_if_lt (tgt := 55) (dtk dt_X4_findPath 17 (29, .ifCond .lt 26, 3) rfl) (by decide) (fun c29 => ?_) (fun c29 => ?_)
      · skip
        exact ru_v (dtk dt_X4_findPath 29 (55, .return_, 1) rfl) rfl hs1 ⟨by omega, fun i i0 i1 => h4 i i0 (by omega)⟩
      · skip
        have hpo := pth_ok hP hy hx (dst m d x y - 1 - v6).toNat (by omega)
        rw [show (((dst m d x y - 1 - v6).toNat : Nat) : Int) = dst m d x y - 1 - v6 by omega, ← h3] at hpo
        have hst := stp_ok hP hy hpo.1 (by omega)
        refine x_aload_n (dtk dt_X4_findPath 18 (32, .aload_n 0, 1) rfl) rfl ?_
        refine x_iload (dtk dt_X4_findPath 19 (33, .iload 5, 2) rfl) rfl ?_
        refine x_iload_n (dtk dt_X4_findPath 20 (35, .iload_n 2, 1) rfl) rfl ?_
        refine x_iload (dtk dt_X4_findPath 21 (36, .iload 6, 2) rfl) rfl ?_
        refine kc_X4_96 rfl (dtk dt_X4_findPath 22 (38, .invokevirtual 96, 3) rfl) (c_X4_firstStep (G := G)  (hO.off_sp hs1) hpo.1 hy) rfl rfl hO.k hO.c (fitR (by decide) (by decide)) (Nat.le_of_ble_eq_true rfl) (pqK ?_)
        rw [fst_stp (show v6 = dst m d v5 y - 1 by omega), if_neg (show ¬ stpF m d y v5 = -1 by omega)]
        refine x_istore (dtk dt_X4_findPath 23 (41, .istore 5, 2) rfl) (by decide) ?_
        refine x_aload_n (dtk dt_X4_findPath 24 (43, .aload_n 3, 1) rfl) rfl ?_
        refine x_iload (dtk dt_X4_findPath 25 (44, .iload 5, 2) rfl) rfl ?_
        refine kc_X4_37 rfl (dtk dt_X4_findPath 26 (46, .invokevirtual 37, 3) rfl) (c_X3_add (G := G)  (ln_2 (hO.off_sp hs1).wf (by omega))) rfl rfl (wk_2 hO.wf) (fitR (by decide) (by decide)) (Nat.le_of_ble_eq_true rfl) (pqK ?_)
        rw [add_2 (by omega)]
        refine y_iinc (dtk dt_X4_findPath 27 (49, .iinc 6 (-1), 3) rfl) rfl (by decide) ⟨by omega, by omega⟩ ?_
        refine x_goto (tgt := 27) (dtk dt_X4_findPath 28 (52, .goto (-25), 3) rfl) (by decide) ?_
        refine MW.sub [2, 3, 4, 5, 6, 1, 0] rfl ?_
        exact ih27 _ (by omega) _ _ _ (by omega) (sp.add hs1) (by rw [st2_self]; omega) (by rw [show dst m d x y - 1 - (v6 + -1) = (dst m d x y - 1 - v6) + 1 by omega, pth_s (by omega), ← h3]) (fun i i0 i1 => by rw [st2_ne _ (show (3 : Int) ≠ 2 by decide), st2_up]; show (if i = M1 2 1 then _ else _) = _; rw [h2]; by_cases hq : i = dst m d x y - v6; (focus (rw [if_pos hq, hq, show dst m d x y - v6 = (dst m d x y - 1 - v6) + 1 by omega, pth_s (by omega), ← h3])); (rw [if_neg hq]; exact h4 i i0 (by omega))) rfl
  refine MW.sub [3, 4, 5, 6, 2, 1, 0] rfl ?_
  exact L27 _ _ _ _ (by omega) (sp.add (sp.emp sp.rf)) (by rw [st2_self]; omega) (by rw [show dst m d x y - 1 - (dst m d x y - 1) = 0 by omega]; rfl) (fun i i0 i1 => by rw [show i = 0 by omega, st2_ne _ (show (3 : Int) ≠ 2 by decide), st2_self]; rfl) rfl
set_option maxRecDepth 100000 in
set_option maxHeartbeats 4000000 in
theorem c_X11_pair {G : GG} {n : Nat} {K : KK} {M : MM} {o a b : Int} (hL : LK K M) : MC G mi_X11_pair 9 0 0 [(1, 0), (0, o), (0, a), (0, b)] n K M (paC n K M o a b) := by
  refine MC.intro (lc := [(0, (1, 0)), (1, (0, o)), (2, (0, a)), (3, (0, b))]) (by decide) rfl (by simp [Nat.ble]) (Nat.le_of_ble_eq_true rfl) rfl (fun hMR => ?_)
  refine x_aload_n (dtk dt_X11_pair 0 (0, .aload_n 0, 1) rfl) rfl ?_
  refine x_iload_n (dtk dt_X11_pair 1 (1, .iload_n 1, 1) rfl) rfl ?_
  by_cases hsp2_0 : 0 ≤ o ∧ o < M 36 0
  · skip
    refine kc_X11_86 rfl (dtk dt_X11_pair 2 (2, .invokevirtual 86, 3) rfl) (c_X11_find (G := G)  hL.wf (by rw [hL.cnt]; exact hsp2_0) (by rw [hL.cnt]; exact hL.c8.2)) rfl rfl (wk_0 hL.wf) (fitR (by decide) (by decide)) (Nat.le_of_ble_eq_true rfl) (pqK ?_)
    have hO := hL.ob hsp2_0
    have hOg := hO.ge
    have hOs := hO.sz
    have hOP := hL.po hsp2_0
    have hOi := isOr_y hsp2_0
    have hkd := hL.kd hsp2_0
    refine x_astore (dtk dt_X11_pair 3 (5, .astore 4, 2) rfl) (by decide) ?_
    refine x_aload (dtk dt_X11_pair 4 (7, .aload 4, 2) rfl) rfl ?_
    refine x_ifnull (tgt := 27) (dtk dt_X11_pair 5 (9, .ifnull 18, 3) rfl) (by decide) (fun c9 => ?_) (fun c9 => ?_)
    · exact absurd c9 (by omega)
    refine x_aload (dtk dt_X11_pair 6 (12, .aload 4, 2) rfl) rfl ?_
    refine x_iload_n (dtk dt_X11_pair 7 (14, .iload_n 2, 1) rfl) rfl ?_
    refine x_iload_n (dtk dt_X11_pair 8 (15, .iload_n 3, 1) rfl) rfl ?_
    refine kc_X11_90 rfl (dtk dt_X11_pair 9 (16, .invokevirtual 90, 3) rfl) (c_X4_hasThings (G := G)  hO) rfl rfl hO.k hO.c (fitR (by decide) (by decide)) (Nat.le_of_ble_eq_true rfl) (pqK ?_)
    refine x_if_eqB (tgt := 27) (dtk dt_X11_pair 10 (19, .ifCond .eq 8, 3) rfl) (by decide) (fun c19 => ?_) (fun c19 => ?_)
    · skip
      refine x_aload_n (dtk dt_X11_pair 14 (27, .aload_n 0, 1) rfl) rfl ?_
      refine x_iconst (v := 1) ⟨by decide, by decide⟩ (dtk dt_X11_pair 15 (28, .iconst 1, 1) rfl) ?_
      refine kc_X11_71 rfl (dtk dt_X11_pair 16 (29, .invokevirtual 71, 3) rfl) (c_X11_refuse (G := G)  hL.wf) rfl rfl (wk_0 hO.wf) (fitR (by decide) (by decide)) (Nat.le_of_ble_eq_true rfl) (pqK ?_)
      exact x_iret (dtk dt_X11_pair 17 (32, .ireturn, 1) rfl) rfl ⟨rfl, rfl, Or.inl ⟨by first | (rw [isTh_n hsp2_0]; rfl) | (rw [isTh_y hsp2_0, isTh_y hsp2_0, c19]; rfl) | (rw [decide_eq_false (by omega), Bool.and_false]), rfl, rfl⟩⟩
    · skip
      have hin : (0 ≤ a ∧ a < M 38 o) ∧ (0 ≤ b ∧ b < M 38 o) := by simpa [and_assoc] using c19
      refine x_iload_n (dtk dt_X11_pair 11 (22, .iload_n 2, 1) rfl) rfl ?_
      refine x_iload_n (dtk dt_X11_pair 12 (23, .iload_n 3, 1) rfl) rfl ?_
      refine x_icmp_ne (tgt := 33) (dtk dt_X11_pair 13 (24, .if_icmp .ne 9, 3) rfl) (by decide) (fun c24 => ?_) (fun c24 => ?_)
      · skip
        have hc : (isTh M o a && isTh M o b && decide (a ≠ b)) = true := by (rw [isTh_y hsp2_0, isTh_y hsp2_0, c19, decide_eq_true c24]; rfl)
        refine x_aload (dtk dt_X11_pair 18 (33, .aload 4, 2) rfl) rfl ?_
        by_cases hsp35_0 : M 37 o = 0
        · skip
          refine kc_X11_94_X4 rfl (dtk dt_X11_pair 19 (35, .invokevirtual 94, 3) rfl) (c_X4_kind (G := G) (p := M 1 o) ) rfl rfl (by rw [hO.k, hsp35_0]; rfl) (fitR (by decide) (by decide)) (Nat.le_of_ble_eq_true rfl) (pqK ?_)
          refine x_if_eq (tgt := 47) (dtk dt_X11_pair 20 (38, .ifCond .eq 9, 3) rfl) (by decide) (fun c38 => ?_) (fun c38 => ?_)
          rotate_left
          · exact absurd (by decide) c38
          refine x_aload (dtk dt_X11_pair 25 (47, .aload 4, 2) rfl) rfl ?_
          refine x_iload_n (dtk dt_X11_pair 26 (49, .iload_n 3, 1) rfl) rfl ?_
          refine x_iload_n (dtk dt_X11_pair 27 (50, .iload_n 2, 1) rfl) rfl ?_
          refine kc_X11_98 rfl (dtk dt_X11_pair 28 (51, .invokevirtual 98, 3) rfl) (c_X4_isBelow (G := G)  hO (by omega) (by omega)) rfl rfl hO.k hO.c (fitR (by decide) (by decide)) (Nat.le_of_ble_eq_true rfl) (pqK ?_)
          refine x_if_eqB (tgt := 74) (dtk dt_X11_pair 29 (54, .ifCond .eq 20, 3) rfl) (by decide) (fun c54 => ?_) (fun c54 => ?_)
          · skip
            refine x_aload_n (dtk dt_X11_pair 40 (74, .aload_n 0, 1) rfl) rfl ?_
            refine fg_X11_24 rfl (dtk dt_X11_pair 41 (75, .getfield 24, 3) rfl) (wk_0 hO.wf) (wm_0_2 hO.wf) ?_
            refine kc_X11_105 rfl (dtk dt_X11_pair 42 (78, .invokevirtual 105, 3) rfl) (c_X3_empty0 (G := G)  (wk_2 hL.wf)) rfl rfl (wk_2 hO.wf) (fitR (by decide) (by decide)) (Nat.le_of_ble_eq_true rfl) (pqK ?_)
            have hO7 : OB K (st2 M 2 1 0) (M 1 o) (kci (M 37 o)) o (M 38 o) (dM M o) := hO.off_sp (sp.emp sp.rf)
            refine x_aload_n (dtk dt_X11_pair 43 (81, .aload_n 0, 1) rfl) rfl ?_
            refine x_aload (dtk dt_X11_pair 44 (82, .aload 4, 2) rfl) rfl ?_
            refine x_iload_n (dtk dt_X11_pair 45 (84, .iload_n 2, 1) rfl) rfl ?_
            refine x_iload_n (dtk dt_X11_pair 46 (85, .iload_n 3, 1) rfl) rfl ?_
            refine kc_X11_108 rfl (dtk dt_X11_pair 47 (86, .invokevirtual 108, 3) rfl) (c_X4_tellPair (G := G)  hO7 (by omega) (by omega)) rfl rfl hO.k hO.c (fitR (by decide) (by decide)) (Nat.le_of_ble_eq_true rfl) (uqK (fun M86_1 hs86_1 hE86_1 => ?_))
            have hE := hE86_1
            have hsO := hs86_1
            refine x_if_eqB (tgt := 96) (dtk dt_X11_pair 48 (89, .ifCond .eq 7, 3) rfl) (by decide) (fun c89 => ?_) (fun c89 => ?_)
            · skip
              refine x_iconst (v := 0) ⟨by decide, by decide⟩ (dtk dt_X11_pair 51 (96, .iconst 0, 1) rfl) ?_
              refine kc_X11_111 rfl (dtk dt_X11_pair 52 (97, .invokevirtual 111, 3) rfl) (c_X11_answer (G := G)  hE.wf) rfl rfl (wk_0 hO.wf) (fitR (by decide) (by decide)) (Nat.le_of_ble_eq_true rfl) (pqK ?_)
              exact x_iret (dtk dt_X11_pair 53 (100, .ireturn, 1) rfl) rfl ⟨rfl, rfl, Or.inr (Or.inr (Or.inr ⟨hc, by omega, c54, by (have hz : (!rel (dM M o) a b) = _ := c89; rw [hz]; rfl), _, hsO, by (rw [hsp35_0] at hE; exact hE), rfl⟩))⟩
            · skip
              refine x_iconst (v := 1) ⟨by decide, by decide⟩ (dtk dt_X11_pair 49 (92, .iconst 1, 1) rfl) ?_
              refine x_goto (tgt := 97) (dtk dt_X11_pair 50 (93, .goto 4, 3) rfl) (by decide) ?_
              refine kc_X11_111 rfl (dtk dt_X11_pair 52 (97, .invokevirtual 111, 3) rfl) (c_X11_answer (G := G)  hE.wf) rfl rfl (wk_0 hO.wf) (fitR (by decide) (by decide)) (Nat.le_of_ble_eq_true rfl) (pqK ?_)
              exact x_iret (dtk dt_X11_pair 53 (100, .ireturn, 1) rfl) rfl ⟨rfl, rfl, Or.inr (Or.inr (Or.inr ⟨hc, by omega, c54, by (have hz : (!rel (dM M o) a b) = _ := c89; rw [hz]; rfl), _, hsO, by (rw [hsp35_0] at hE; exact hE), rfl⟩))⟩
          · skip
            refine x_aload (dtk dt_X11_pair 30 (57, .aload 4, 2) rfl) rfl ?_
            refine x_iload_n (dtk dt_X11_pair 31 (59, .iload_n 3, 1) rfl) rfl ?_
            refine x_iload_n (dtk dt_X11_pair 32 (60, .iload_n 2, 1) rfl) rfl ?_
            refine x_aload_n (dtk dt_X11_pair 33 (61, .aload_n 0, 1) rfl) rfl ?_
            refine fg_X11_24 rfl (dtk dt_X11_pair 34 (62, .getfield 24, 3) rfl) (wk_0 hO.wf) (wm_0_2 hO.wf) ?_
            refine kc_X11_101 rfl (dtk dt_X11_pair 35 (65, .invokevirtual 101, 3) rfl) (c_X4_findPath (G := G)  hO hOP (by omega) (by omega) c54) rfl rfl hO.k hO.c (fitR (by decide) (by decide)) (Nat.le_of_ble_eq_true rfl) (uqK (fun M65_1 hs65_1 hE65_1 => ?_))
            have hE := hE65_1
            have hsP := hs65_1
            refine x_aload_n (dtk dt_X11_pair 36 (68, .aload_n 0, 1) rfl) rfl ?_
            refine x_iconst (v := 3) ⟨by decide, by decide⟩ (dtk dt_X11_pair 37 (69, .iconst 3, 1) rfl) ?_
            refine kc_X11_71 rfl (dtk dt_X11_pair 38 (70, .invokevirtual 71, 3) rfl) (c_X11_refuse (G := G)  (hsP.wf hL.wf)) rfl rfl (wk_0 hO.wf) (fitR (by decide) (by decide)) (Nat.le_of_ble_eq_true rfl) (pqK ?_)
            exact x_iret (dtk dt_X11_pair 39 (73, .ireturn, 1) rfl) rfl ⟨rfl, rfl, Or.inr (Or.inr (Or.inl ⟨hc, by omega, c54, rfl, _, hsP, hE, rfl⟩))⟩
        by_cases hsp35_1 : M 37 o = 1
        · skip
          refine kc_X11_94_X9 rfl (dtk dt_X11_pair 19 (35, .invokevirtual 94, 3) rfl) (c_X9_kind (G := G) (p := M 1 o) ) rfl rfl (by rw [hO.k, hsp35_1]; rfl) (fitR (by decide) (by decide)) (Nat.le_of_ble_eq_true rfl) (pqK ?_)
          refine x_if_eq (tgt := 47) (dtk dt_X11_pair 20 (38, .ifCond .eq 9, 3) rfl) (by decide) (fun c38 => ?_) (fun c38 => ?_)
          · exact absurd c38 (by decide)
          refine x_aload_n (dtk dt_X11_pair 21 (41, .aload_n 0, 1) rfl) rfl ?_
          refine x_iconst (v := 3) ⟨by decide, by decide⟩ (dtk dt_X11_pair 22 (42, .iconst 3, 1) rfl) ?_
          refine kc_X11_71 rfl (dtk dt_X11_pair 23 (43, .invokevirtual 71, 3) rfl) (c_X11_refuse (G := G)  hL.wf) rfl rfl (wk_0 hO.wf) (fitR (by decide) (by decide)) (Nat.le_of_ble_eq_true rfl) (pqK ?_)
          exact x_iret (dtk dt_X11_pair 24 (46, .ireturn, 1) rfl) rfl ⟨rfl, rfl, Or.inr (Or.inl ⟨hc, by omega, rfl, rfl⟩)⟩
        by_cases hsp35_2 : M 37 o = 2
        · skip
          refine kc_X11_94_X0 rfl (dtk dt_X11_pair 19 (35, .invokevirtual 94, 3) rfl) (c_X0_kind (G := G) (p := M 1 o) ) rfl rfl (by rw [hO.k, hsp35_2]; rfl) (fitR (by decide) (by decide)) (Nat.le_of_ble_eq_true rfl) (pqK ?_)
          refine x_if_eq (tgt := 47) (dtk dt_X11_pair 20 (38, .ifCond .eq 9, 3) rfl) (by decide) (fun c38 => ?_) (fun c38 => ?_)
          · exact absurd c38 (by decide)
          refine x_aload_n (dtk dt_X11_pair 21 (41, .aload_n 0, 1) rfl) rfl ?_
          refine x_iconst (v := 3) ⟨by decide, by decide⟩ (dtk dt_X11_pair 22 (42, .iconst 3, 1) rfl) ?_
          refine kc_X11_71 rfl (dtk dt_X11_pair 23 (43, .invokevirtual 71, 3) rfl) (c_X11_refuse (G := G)  hL.wf) rfl rfl (wk_0 hO.wf) (fitR (by decide) (by decide)) (Nat.le_of_ble_eq_true rfl) (pqK ?_)
          exact x_iret (dtk dt_X11_pair 24 (46, .ireturn, 1) rfl) rfl ⟨rfl, rfl, Or.inr (Or.inl ⟨hc, by omega, rfl, rfl⟩)⟩
        by_cases hsp35_3 : M 37 o = 3
        · skip
          refine kc_X11_94_X10 rfl (dtk dt_X11_pair 19 (35, .invokevirtual 94, 3) rfl) (c_X10_kind (G := G) (p := M 1 o) ) rfl rfl (by rw [hO.k, hsp35_3]; rfl) (fitR (by decide) (by decide)) (Nat.le_of_ble_eq_true rfl) (pqK ?_)
          refine x_if_eq (tgt := 47) (dtk dt_X11_pair 20 (38, .ifCond .eq 9, 3) rfl) (by decide) (fun c38 => ?_) (fun c38 => ?_)
          · exact absurd c38 (by decide)
          refine x_aload_n (dtk dt_X11_pair 21 (41, .aload_n 0, 1) rfl) rfl ?_
          refine x_iconst (v := 3) ⟨by decide, by decide⟩ (dtk dt_X11_pair 22 (42, .iconst 3, 1) rfl) ?_
          refine kc_X11_71 rfl (dtk dt_X11_pair 23 (43, .invokevirtual 71, 3) rfl) (c_X11_refuse (G := G)  hL.wf) rfl rfl (wk_0 hO.wf) (fitR (by decide) (by decide)) (Nat.le_of_ble_eq_true rfl) (pqK ?_)
          exact x_iret (dtk dt_X11_pair 24 (46, .ireturn, 1) rfl) rfl ⟨rfl, rfl, Or.inr (Or.inl ⟨hc, by omega, rfl, rfl⟩)⟩
        by_cases hsp35_4 : M 37 o = 4
        · skip
          refine kc_X11_94_X2 rfl (dtk dt_X11_pair 19 (35, .invokevirtual 94, 3) rfl) (c_X2_kind (G := G) (p := M 1 o) ) rfl rfl (by rw [hO.k, hsp35_4]; rfl) (fitR (by decide) (by decide)) (Nat.le_of_ble_eq_true rfl) (pqK ?_)
          refine x_if_eq (tgt := 47) (dtk dt_X11_pair 20 (38, .ifCond .eq 9, 3) rfl) (by decide) (fun c38 => ?_) (fun c38 => ?_)
          · exact absurd c38 (by decide)
          refine x_aload_n (dtk dt_X11_pair 21 (41, .aload_n 0, 1) rfl) rfl ?_
          refine x_iconst (v := 3) ⟨by decide, by decide⟩ (dtk dt_X11_pair 22 (42, .iconst 3, 1) rfl) ?_
          refine kc_X11_71 rfl (dtk dt_X11_pair 23 (43, .invokevirtual 71, 3) rfl) (c_X11_refuse (G := G)  hL.wf) rfl rfl (wk_0 hO.wf) (fitR (by decide) (by decide)) (Nat.le_of_ble_eq_true rfl) (pqK ?_)
          exact x_iret (dtk dt_X11_pair 24 (46, .ireturn, 1) rfl) rfl ⟨rfl, rfl, Or.inr (Or.inl ⟨hc, by omega, rfl, rfl⟩)⟩
        refine kc_X11_94_X5 rfl (dtk dt_X11_pair 19 (35, .invokevirtual 94, 3) rfl) (c_X5_kind (G := G) (p := M 1 o) ) rfl rfl (by rw [hO.k, show M 37 o = 5 by omega]; rfl) (fitR (by decide) (by decide)) (Nat.le_of_ble_eq_true rfl) (pqK ?_)
        refine x_if_eq (tgt := 47) (dtk dt_X11_pair 20 (38, .ifCond .eq 9, 3) rfl) (by decide) (fun c38 => ?_) (fun c38 => ?_)
        · exact absurd c38 (by decide)
        refine x_aload_n (dtk dt_X11_pair 21 (41, .aload_n 0, 1) rfl) rfl ?_
        refine x_iconst (v := 3) ⟨by decide, by decide⟩ (dtk dt_X11_pair 22 (42, .iconst 3, 1) rfl) ?_
        refine kc_X11_71 rfl (dtk dt_X11_pair 23 (43, .invokevirtual 71, 3) rfl) (c_X11_refuse (G := G)  hL.wf) rfl rfl (wk_0 hO.wf) (fitR (by decide) (by decide)) (Nat.le_of_ble_eq_true rfl) (pqK ?_)
        exact x_iret (dtk dt_X11_pair 24 (46, .ireturn, 1) rfl) rfl ⟨rfl, rfl, Or.inr (Or.inl ⟨hc, by omega, rfl, rfl⟩)⟩
      · skip
        refine x_aload_n (dtk dt_X11_pair 14 (27, .aload_n 0, 1) rfl) rfl ?_
        refine x_iconst (v := 1) ⟨by decide, by decide⟩ (dtk dt_X11_pair 15 (28, .iconst 1, 1) rfl) ?_
        refine kc_X11_71 rfl (dtk dt_X11_pair 16 (29, .invokevirtual 71, 3) rfl) (c_X11_refuse (G := G)  hL.wf) rfl rfl (wk_0 hO.wf) (fitR (by decide) (by decide)) (Nat.le_of_ble_eq_true rfl) (pqK ?_)
        exact x_iret (dtk dt_X11_pair 17 (32, .ireturn, 1) rfl) rfl ⟨rfl, rfl, Or.inl ⟨by first | (rw [isTh_n hsp2_0]; rfl) | (rw [isTh_y hsp2_0, isTh_y hsp2_0, c19]; rfl) | (rw [decide_eq_false (by omega), Bool.and_false]), rfl, rfl⟩⟩
  refine kc_X11_86 rfl (dtk dt_X11_pair 2 (2, .invokevirtual 86, 3) rfl) (c_X11_find_no (G := G)  hL.wf (by rw [hL.cnt]; exact hsp2_0)) rfl rfl (wk_0 hL.wf) (fitR (by decide) (by decide)) (Nat.le_of_ble_eq_true rfl) (pqK ?_)
  have hOn := isOr_n hsp2_0
  refine x_astore (dtk dt_X11_pair 3 (5, .astore 4, 2) rfl) (by decide) ?_
  refine x_aload (dtk dt_X11_pair 4 (7, .aload 4, 2) rfl) rfl ?_
  refine x_ifnull (tgt := 27) (dtk dt_X11_pair 5 (9, .ifnull 18, 3) rfl) (by decide) (fun c9 => ?_) (fun c9 => ?_)
  rotate_left
  · exact absurd c9 (by decide)
  refine x_aload_n (dtk dt_X11_pair 14 (27, .aload_n 0, 1) rfl) rfl ?_
  refine x_iconst (v := 1) ⟨by decide, by decide⟩ (dtk dt_X11_pair 15 (28, .iconst 1, 1) rfl) ?_
  refine kc_X11_71 rfl (dtk dt_X11_pair 16 (29, .invokevirtual 71, 3) rfl) (c_X11_refuse (G := G)  hL.wf) rfl rfl (wk_0 hL.wf) (fitR (by decide) (by decide)) (Nat.le_of_ble_eq_true rfl) (pqK ?_)
  exact x_iret (dtk dt_X11_pair 17 (32, .ireturn, 1) rfl) rfl ⟨rfl, rfl, Or.inl ⟨by first | (rw [isTh_n hsp2_0]; rfl) | (rw [isTh_y hsp2_0, isTh_y hsp2_0, c19]; rfl) | (rw [decide_eq_false (by omega), Bool.and_false]), rfl, rfl⟩⟩
set_option maxRecDepth 100000 in
set_option maxHeartbeats 4000000 in
theorem c_X11_emptyHand {G : GG} {n : Nat} {K : KK} {M : MM}  (hw : WF K M) : MC G mi_X11_emptyHand 2 0 0 [(1, 0)] n K M (PQ none n K (ehM M)) := by
  refine MC.intro (lc := [(0, (1, 0))]) (by decide) rfl (by simp [Nat.ble]) (Nat.le_of_ble_eq_true rfl) rfl (fun hMR => ?_)
  refine x_aload_n (dtk dt_X11_emptyHand 0 (0, .aload_n 0, 1) rfl) rfl ?_
  refine fg_X11_28 rfl (dtk dt_X11_emptyHand 1 (1, .getfield 28, 3) rfl) (wk_0 hw) (wm_0_3 hw) ?_
  refine kc_X11_105 rfl (dtk dt_X11_emptyHand 2 (4, .invokevirtual 105, 3) rfl) (c_X3_empty0 (G := G)  (wk_4 hw)) rfl rfl (wk_4 hw) (fitR (by decide) (by decide)) (Nat.le_of_ble_eq_true rfl) (pqK ?_)
  refine x_aload_n (dtk dt_X11_emptyHand 3 (7, .aload_n 0, 1) rfl) rfl ?_
  refine x_iconst (v := -1) ⟨by decide, by decide⟩ (dtk dt_X11_emptyHand 4 (8, .iconst (-1), 1) rfl) ?_
  refine fp_X11_31 rfl (dtk dt_X11_emptyHand 5 (9, .putfield 31, 3) rfl) (wk_0 hw) ?_
  exact r_v (dtk dt_X11_emptyHand 6 (12, .return_, 1) rfl) rfl rfl
set_option maxRecDepth 100000 in
set_option maxHeartbeats 4000000 in
theorem c_X11_drop {G : GG} {n : Nat} {K : KK} {M : MM}  (hL : LK K M) : MC G mi_X11_drop 3 0 0 [(1, 0)] n K M (PQ (some (0, if M 36 0 = 0 then -1 else M 36 0 - 1)) n K (if M 36 0 = 0 then st2 M 0 11 3 else st2 (if M 0 4 = M 36 0 - 1 then ehM (drC M) else drC M) 0 11 0)) := by
  refine MC.intro (lc := [(0, (1, 0))]) (by decide) rfl (by simp [Nat.ble]) (Nat.le_of_ble_eq_true rfl) rfl (fun hMR => ?_)
  have hcn := hL.cnt
  have hc8 := hL.c8
  refine x_aload_n (dtk dt_X11_drop 0 (0, .aload_n 0, 1) rfl) rfl ?_
  refine fg_X11_15 rfl (dtk dt_X11_drop 1 (1, .getfield 15, 3) rfl) (wk_0 hL.wf) rfl ?_
  refine x_if_ne (tgt := 13) (dtk dt_X11_drop 2 (4, .ifCond .ne 9, 3) rfl) (by decide) (fun c4 => ?_) (fun c4 => ?_)
  · skip
    refine x_aload_n (dtk dt_X11_drop 7 (13, .aload_n 0, 1) rfl) rfl ?_
    refine x_dup rfl (dtk dt_X11_drop 8 (14, .dup, 1) rfl) ?_
    refine fg_X11_15 rfl (dtk dt_X11_drop 9 (15, .getfield 15, 3) rfl) (wk_0 hL.wf) rfl ?_
    refine x_iconst (v := 1) ⟨by decide, by decide⟩ (dtk dt_X11_drop 10 (18, .iconst 1, 1) rfl) ?_
    refine y_isub (dtk dt_X11_drop 11 (19, .isub, 1) rfl) ⟨by omega, by omega⟩ ?_
    refine fp_X11_15 rfl (dtk dt_X11_drop 12 (20, .putfield 15, 3) rfl) (wk_0 hL.wf) ?_
    refine x_aload_n (dtk dt_X11_drop 13 (23, .aload_n 0, 1) rfl) rfl ?_
    refine fg_X11_11 rfl (dtk dt_X11_drop 14 (24, .getfield 11, 3) rfl) (wk_0 hL.wf) (wm_0_0 (WF.fld 0 1 rfl hL.wf)) ?_
    refine x_aload_n (dtk dt_X11_drop 15 (27, .aload_n 0, 1) rfl) rfl ?_
    refine fg_X11_15 rfl (dtk dt_X11_drop 16 (28, .getfield 15, 3) rfl) (wk_0 hL.wf) (v := M 0 1 - 1) (by rw [st2_self]) ?_
    refine x_null (dtk dt_X11_drop 17 (31, .aconst_null, 1) rfl) ?_
    refine x_aastN (dtk dt_X11_drop 18 (32, .aastore, 1) rfl) (Or.inl rfl) (wk_1 hL.wf) ⟨by omega, by omega⟩ (by decide) ?_
    refine x_aload_n (dtk dt_X11_drop 19 (33, .aload_n 0, 1) rfl) rfl ?_
    refine fg_X11_24 rfl (dtk dt_X11_drop 20 (34, .getfield 24, 3) rfl) (wk_0 hL.wf) (wm_0_2 (WF.arr 1 rfl (WF.fld 0 1 rfl hL.wf))) ?_
    refine kc_X11_105 rfl (dtk dt_X11_drop 21 (37, .invokevirtual 105, 3) rfl) (c_X3_empty0 (G := G)  (wk_2 hL.wf)) rfl rfl (wk_2 hL.wf) (fitR (by decide) (by decide)) (Nat.le_of_ble_eq_true rfl) (pqK ?_)
    refine x_aload_n (dtk dt_X11_drop 22 (40, .aload_n 0, 1) rfl) rfl ?_
    refine fg_X11_31 rfl (dtk dt_X11_drop 23 (41, .getfield 31, 3) rfl) (wk_0 hL.wf) (v := M 0 4) (by rw [st2_ne _ (show (0 : Int) ≠ 2 by decide), st2_ne _ (show (0 : Int) ≠ 1 by decide), st2_o _ (by decide)]) ?_
    refine x_aload_n (dtk dt_X11_drop 24 (44, .aload_n 0, 1) rfl) rfl ?_
    refine fg_X11_15 rfl (dtk dt_X11_drop 25 (45, .getfield 15, 3) rfl) (wk_0 hL.wf) (v := M 0 1 - 1) (by rw [st2_ne _ (show (0 : Int) ≠ 2 by decide), st2_ne _ (show (0 : Int) ≠ 1 by decide), st2_self]) ?_
    refine x_icmp_ne (tgt := 55) (dtk dt_X11_drop 26 (48, .if_icmp .ne 7, 3) rfl) (by decide) (fun c48 => ?_) (fun c48 => ?_)
    · skip
      refine x_aload_n (dtk dt_X11_drop 29 (55, .aload_n 0, 1) rfl) rfl ?_
      refine x_aload_n (dtk dt_X11_drop 30 (56, .aload_n 0, 1) rfl) rfl ?_
      refine fg_X11_15 rfl (dtk dt_X11_drop 31 (57, .getfield 15, 3) rfl) (wk_0 hL.wf) (v := M 0 1 - 1) (by first | (rw [st2_ne _ (show (0 : Int) ≠ 2 by decide), st2_ne _ (show (0 : Int) ≠ 1 by decide), st2_self]; done) | (unfold ehM; rw [st2_o _ (by decide), st2_ne _ (show (0 : Int) ≠ 4 by decide), st2_ne _ (show (0 : Int) ≠ 2 by decide), st2_ne _ (show (0 : Int) ≠ 1 by decide), st2_self])) ?_
      refine kc_X11_111 rfl (dtk dt_X11_drop 32 (60, .invokevirtual 111, 3) rfl) (c_X11_answer (G := G)  (by first | exact WF.fld 2 1 rfl (WF.arr 1 rfl (WF.fld 0 1 rfl hL.wf)) | exact WF.fld 0 4 rfl (WF.fld 4 1 rfl (WF.fld 2 1 rfl (WF.arr 1 rfl (WF.fld 0 1 rfl hL.wf)))))) rfl rfl (wk_0 hL.wf) (fitR (by decide) (by decide)) (Nat.le_of_ble_eq_true rfl) (pqK ?_)
      exact r_i (dtk dt_X11_drop 33 (63, .ireturn, 1) rfl) rfl (by rw [if_neg (by omega)]; omega) (by rw [if_neg (by omega)]; first | (rw [if_pos (by omega)]; rfl) | (rw [if_neg (by omega)]; rfl))
    · skip
      refine x_aload_n (dtk dt_X11_drop 27 (51, .aload_n 0, 1) rfl) rfl ?_
      refine kc_X11_165 rfl (dtk dt_X11_drop 28 (52, .invokevirtual 165, 3) rfl) (c_X11_emptyHand (G := G)  (WF.fld 2 1 rfl (WF.arr 1 rfl (WF.fld 0 1 rfl hL.wf)))) rfl rfl (wk_0 hL.wf) (fitR (by decide) (by decide)) (Nat.le_of_ble_eq_true rfl) (pqK ?_)
      refine x_aload_n (dtk dt_X11_drop 29 (55, .aload_n 0, 1) rfl) rfl ?_
      refine x_aload_n (dtk dt_X11_drop 30 (56, .aload_n 0, 1) rfl) rfl ?_
      refine fg_X11_15 rfl (dtk dt_X11_drop 31 (57, .getfield 15, 3) rfl) (wk_0 hL.wf) (v := M 0 1 - 1) (by first | (rw [st2_ne _ (show (0 : Int) ≠ 2 by decide), st2_ne _ (show (0 : Int) ≠ 1 by decide), st2_self]; done) | (unfold ehM; rw [st2_o _ (by decide), st2_ne _ (show (0 : Int) ≠ 4 by decide), st2_ne _ (show (0 : Int) ≠ 2 by decide), st2_ne _ (show (0 : Int) ≠ 1 by decide), st2_self])) ?_
      refine kc_X11_111 rfl (dtk dt_X11_drop 32 (60, .invokevirtual 111, 3) rfl) (c_X11_answer (G := G)  (by first | exact WF.fld 2 1 rfl (WF.arr 1 rfl (WF.fld 0 1 rfl hL.wf)) | exact WF.fld 0 4 rfl (WF.fld 4 1 rfl (WF.fld 2 1 rfl (WF.arr 1 rfl (WF.fld 0 1 rfl hL.wf)))))) rfl rfl (wk_0 hL.wf) (fitR (by decide) (by decide)) (Nat.le_of_ble_eq_true rfl) (pqK ?_)
      exact r_i (dtk dt_X11_drop 33 (63, .ireturn, 1) rfl) rfl (by rw [if_neg (by omega)]; omega) (by rw [if_neg (by omega)]; first | (rw [if_pos (by omega)]; rfl) | (rw [if_neg (by omega)]; rfl))
  · skip
    refine x_aload_n (dtk dt_X11_drop 3 (7, .aload_n 0, 1) rfl) rfl ?_
    refine x_iconst (v := 3) ⟨by decide, by decide⟩ (dtk dt_X11_drop 4 (8, .iconst 3, 1) rfl) ?_
    refine kc_X11_71 rfl (dtk dt_X11_drop 5 (9, .invokevirtual 71, 3) rfl) (c_X11_refuse (G := G)  hL.wf) rfl rfl (wk_0 hL.wf) (fitR (by decide) (by decide)) (Nat.le_of_ble_eq_true rfl) (pqK ?_)
    exact r_i (dtk dt_X11_drop 6 (12, .ireturn, 1) rfl) rfl (by rw [if_pos (by omega)]) (by rw [if_pos (by omega)])
set_option maxRecDepth 100000 in
set_option maxHeartbeats 4000000 in
theorem c_X11_clear {G : GG} {n : Nat} {K : KK} {M : MM}  (hL : LK K M) : MC G mi_X11_clear 3 0 0 [(1, 0)] n K M (PQ (some (0, M 36 5)) n K (st2 (ehM M) 0 11 0)) := by
  refine MC.intro (lc := [(0, (1, 0))]) (by decide) rfl (by simp [Nat.ble]) (Nat.le_of_ble_eq_true rfl) rfl (fun hMR => ?_)
  refine x_aload_n (dtk dt_X11_clear 0 (0, .aload_n 0, 1) rfl) rfl ?_
  refine fg_X11_28 rfl (dtk dt_X11_clear 1 (1, .getfield 28, 3) rfl) (wk_0 hL.wf) (wm_0_3 hL.wf) ?_
  refine fg_X11_199 rfl (dtk dt_X11_clear 2 (4, .getfield 199, 3) rfl) (wk_4 hL.wf) rfl ?_
  refine x_istore_n (dtk dt_X11_clear 3 (7, .istore_n 1, 1) rfl) (by decide) ?_
  refine x_aload_n (dtk dt_X11_clear 4 (8, .aload_n 0, 1) rfl) rfl ?_
  refine kc_X11_165 rfl (dtk dt_X11_clear 5 (9, .invokevirtual 165, 3) rfl) (c_X11_emptyHand (G := G)  hL.wf) rfl rfl (wk_0 hL.wf) (fitR (by decide) (by decide)) (Nat.le_of_ble_eq_true rfl) (pqK ?_)
  refine x_aload_n (dtk dt_X11_clear 6 (12, .aload_n 0, 1) rfl) rfl ?_
  refine x_iload_n (dtk dt_X11_clear 7 (13, .iload_n 1, 1) rfl) rfl ?_
  refine kc_X11_111 rfl (dtk dt_X11_clear 8 (14, .invokevirtual 111, 3) rfl) (c_X11_answer (G := G)  (WF.fld 0 4 rfl (WF.fld 4 1 rfl hL.wf))) rfl rfl (wk_0 hL.wf) (fitR (by decide) (by decide)) (Nat.le_of_ble_eq_true rfl) (pqK ?_)
  exact r_i (dtk dt_X11_clear 9 (17, .ireturn, 1) rfl) rfl hL.lh.2.1 rfl
set_option maxRecDepth 100000 in
set_option maxHeartbeats 4000000 in
theorem c_X11_lay {G : GG} {n : Nat} {K : KK} {M : MM} {o t : Int} (hL : LK K M) : MC G mi_X11_lay 3 0 0 [(1, 0), (0, o), (0, t)] n K M (PQ (some (0, if isTh M o t then (if hadH M o t then -1 else M 36 5 + 1) else -1)) n K (if isTh M o t then (if hadH M o t then st2 M 0 11 3 else st2 (st2 (st2 (st2 M 0 4 o) 5 (M 4 1) t) 4 1 (M 4 1 + 1)) 0 11 0) else st2 M 0 11 1)) := by
  refine MC.intro (lc := [(0, (1, 0)), (1, (0, o)), (2, (0, t))]) (by decide) rfl (by simp [Nat.ble]) (Nat.le_of_ble_eq_true rfl) rfl (fun hMR => ?_)
  have hh := hL.lh
  have hv := hh.1
  have hc8 := hL.c8
  have hz1 := hh.2.1
  have hv1 := hv.1
  refine x_aload_n (dtk dt_X11_lay 0 (0, .aload_n 0, 1) rfl) rfl ?_
  refine x_iload_n (dtk dt_X11_lay 1 (1, .iload_n 1, 1) rfl) rfl ?_
  by_cases hsp2_0 : 0 ≤ o ∧ o < M 36 0
  · skip
    refine kc_X11_86 rfl (dtk dt_X11_lay 2 (2, .invokevirtual 86, 3) rfl) (c_X11_find (G := G)  hL.wf (by rw [hL.cnt]; exact hsp2_0) (by rw [hL.cnt]; exact hL.c8.2)) rfl rfl (wk_0 hL.wf) (fitR (by decide) (by decide)) (Nat.le_of_ble_eq_true rfl) (pqK ?_)
    have hO := hL.ob hsp2_0
    have hOg := hO.ge
    have hOs := hO.sz
    have hOP := hL.po hsp2_0
    have hOi := isOr_y hsp2_0
    refine x_astore_n (dtk dt_X11_lay 3 (5, .astore_n 3, 1) rfl) (by decide) ?_
    refine x_aload_n (dtk dt_X11_lay 4 (6, .aload_n 3, 1) rfl) rfl ?_
    refine x_ifnull (tgt := 18) (dtk dt_X11_lay 5 (7, .ifnull 11, 3) rfl) (by decide) (fun c7 => ?_) (fun c7 => ?_)
    · exact absurd c7 (by omega)
    refine x_aload_n (dtk dt_X11_lay 6 (10, .aload_n 3, 1) rfl) rfl ?_
    refine x_iload_n (dtk dt_X11_lay 7 (11, .iload_n 2, 1) rfl) rfl ?_
    refine kc_X11_205 rfl (dtk dt_X11_lay 8 (12, .invokevirtual 205, 3) rfl) (c_X4_hasThing (G := G)  hO) rfl rfl hO.k hO.c (fitR (by decide) (by decide)) (Nat.le_of_ble_eq_true rfl) (pqK ?_)
    refine x_if_neB (tgt := 24) (dtk dt_X11_lay 9 (15, .ifCond .ne 9, 3) rfl) (by decide) (fun c15 => ?_) (fun c15 => ?_)
    · skip
      have hit : isTh M o t = true := (isTh_y hsp2_0).trans c15
      refine x_aload_n (dtk dt_X11_lay 14 (24, .aload_n 0, 1) rfl) rfl ?_
      refine fg_X11_28 rfl (dtk dt_X11_lay 15 (25, .getfield 28, 3) rfl) (wk_0 hL.wf) (wm_0_3 hL.wf) ?_
      refine fg_X11_199 rfl (dtk dt_X11_lay 16 (28, .getfield 199, 3) rfl) (wk_4 hL.wf) rfl ?_
      refine x_if_le (tgt := 59) (dtk dt_X11_lay 17 (31, .ifCond .le 28, 3) rfl) (by decide) (fun c31 => ?_) (fun c31 => ?_)
      · skip
        have hhd : hadH M o t = false := had_0 (by omega)
        have hlt := hv.lt hL.mo hit hhd
        refine x_aload_n (dtk dt_X11_lay 31 (59, .aload_n 0, 1) rfl) rfl ?_
        refine x_iload_n (dtk dt_X11_lay 32 (60, .iload_n 1, 1) rfl) rfl ?_
        refine fp_X11_31 rfl (dtk dt_X11_lay 33 (61, .putfield 31, 3) rfl) (wk_0 hL.wf) ?_
        refine x_aload_n (dtk dt_X11_lay 34 (64, .aload_n 0, 1) rfl) rfl ?_
        refine fg_X11_28 rfl (dtk dt_X11_lay 35 (65, .getfield 28, 3) rfl) (wk_0 hL.wf) (wm_0_3 (WF.fld 0 4 rfl hL.wf)) ?_
        refine x_iload_n (dtk dt_X11_lay 36 (68, .iload_n 2, 1) rfl) rfl ?_
        refine kc_X11_263 rfl (dtk dt_X11_lay 37 (69, .invokevirtual 263, 3) rfl) (c_X3_add (G := G)  (ln_4 (WF.fld 0 4 rfl hL.wf) (by rw [st2_ne _ (show (4 : Int) ≠ 0 by decide)]; omega))) rfl rfl (wk_4 hL.wf) (fitR (by decide) (by decide)) (Nat.le_of_ble_eq_true rfl) (pqK ?_)
        rw [add_4 (by rw [st2_ne _ (show (4 : Int) ≠ 0 by decide)]; omega), st2_ne _ (show (4 : Int) ≠ 0 by decide)]
        refine x_aload_n (dtk dt_X11_lay 38 (72, .aload_n 0, 1) rfl) rfl ?_
        refine x_aload_n (dtk dt_X11_lay 39 (73, .aload_n 0, 1) rfl) rfl ?_
        refine fg_X11_28 rfl (dtk dt_X11_lay 40 (74, .getfield 28, 3) rfl) (wk_0 hL.wf) (wm_0_3 (WF.fld 4 1 rfl (WF.arr 5 rfl (WF.fld 0 4 rfl hL.wf)))) ?_
        refine fg_X11_199 rfl (dtk dt_X11_lay 41 (77, .getfield 199, 3) rfl) (wk_4 hL.wf) (v := M 4 1 + 1) (by rw [st2_self]) ?_
        refine kc_X11_111 rfl (dtk dt_X11_lay 42 (80, .invokevirtual 111, 3) rfl) (c_X11_answer (G := G)  (WF.fld 4 1 rfl (WF.arr 5 rfl (WF.fld 0 4 rfl hL.wf)))) rfl rfl (wk_0 hL.wf) (fitR (by decide) (by decide)) (Nat.le_of_ble_eq_true rfl) (pqK ?_)
        exact r_i (dtk dt_X11_lay 43 (83, .ireturn, 1) rfl) rfl (by rw [if_pos hit, hhd]; show _ = M 36 5 + 1; omega) (by rw [if_pos hit, hhd]; rfl)
      · skip
        have hlf : M 0 4 = M 36 4 := by (have e := hh.2.2.2; rw [if_neg (by omega)] at e; exact e)
        refine x_aload_n (dtk dt_X11_lay 18 (34, .aload_n 0, 1) rfl) rfl ?_
        refine fg_X11_31 rfl (dtk dt_X11_lay 19 (35, .getfield 31, 3) rfl) (wk_0 hL.wf) rfl ?_
        refine x_iload_n (dtk dt_X11_lay 20 (38, .iload_n 1, 1) rfl) rfl ?_
        refine x_icmp_ne (tgt := 53) (dtk dt_X11_lay 21 (39, .if_icmp .ne 14, 3) rfl) (by decide) (fun c39 => ?_) (fun c39 => ?_)
        · skip
          have hhd : hadH M o t = true := by (unfold hadH; rw [decide_eq_true (show 0 < M 36 5 by omega), decide_eq_true (show M 36 4 ≠ o by omega)]; rfl)
          refine x_aload_n (dtk dt_X11_lay 27 (53, .aload_n 0, 1) rfl) rfl ?_
          refine x_iconst (v := 3) ⟨by decide, by decide⟩ (dtk dt_X11_lay 28 (54, .iconst 3, 1) rfl) ?_
          refine kc_X11_71 rfl (dtk dt_X11_lay 29 (55, .invokevirtual 71, 3) rfl) (c_X11_refuse (G := G)  hL.wf) rfl rfl (wk_0 hL.wf) (fitR (by decide) (by decide)) (Nat.le_of_ble_eq_true rfl) (pqK ?_)
          exact r_i (dtk dt_X11_lay 30 (58, .ireturn, 1) rfl) rfl (by rw [if_pos hit, hhd]; rfl) (by rw [if_pos hit, hhd]; rfl)
        · skip
          refine x_aload_n (dtk dt_X11_lay 22 (42, .aload_n 0, 1) rfl) rfl ?_
          refine fg_X11_28 rfl (dtk dt_X11_lay 23 (43, .getfield 28, 3) rfl) (wk_0 hL.wf) (wm_0_3 hL.wf) ?_
          refine x_iload_n (dtk dt_X11_lay 24 (46, .iload_n 2, 1) rfl) rfl ?_
          refine kc_X11_260 rfl (dtk dt_X11_lay 25 (47, .invokevirtual 260, 3) rfl) (c_X3_has (G := G)  (ln_4 hL.wf (by omega))) rfl rfl (wk_4 hL.wf) (fitR (by decide) (by decide)) (Nat.le_of_ble_eq_true rfl) (pqK ?_)
          change MW G _ _ _ _ _ _ ((0, B (decide (plc (M 4 1) (M 5) t ≠ -1))) :: _) _ _ _
          refine x_if_eqB (tgt := 59) (dtk dt_X11_lay 26 (50, .ifCond .eq 9, 3) rfl) (by decide) (fun c50 => ?_) (fun c50 => ?_)
          · skip
            have hhd : hadH M o t = false := had_no (by omega) (plc_no hh c50)
            have hlt := hv.lt hL.mo hit hhd
            refine x_aload_n (dtk dt_X11_lay 31 (59, .aload_n 0, 1) rfl) rfl ?_
            refine x_iload_n (dtk dt_X11_lay 32 (60, .iload_n 1, 1) rfl) rfl ?_
            refine fp_X11_31 rfl (dtk dt_X11_lay 33 (61, .putfield 31, 3) rfl) (wk_0 hL.wf) ?_
            refine x_aload_n (dtk dt_X11_lay 34 (64, .aload_n 0, 1) rfl) rfl ?_
            refine fg_X11_28 rfl (dtk dt_X11_lay 35 (65, .getfield 28, 3) rfl) (wk_0 hL.wf) (wm_0_3 (WF.fld 0 4 rfl hL.wf)) ?_
            refine x_iload_n (dtk dt_X11_lay 36 (68, .iload_n 2, 1) rfl) rfl ?_
            refine kc_X11_263 rfl (dtk dt_X11_lay 37 (69, .invokevirtual 263, 3) rfl) (c_X3_add (G := G)  (ln_4 (WF.fld 0 4 rfl hL.wf) (by rw [st2_ne _ (show (4 : Int) ≠ 0 by decide)]; omega))) rfl rfl (wk_4 hL.wf) (fitR (by decide) (by decide)) (Nat.le_of_ble_eq_true rfl) (pqK ?_)
            rw [add_4 (by rw [st2_ne _ (show (4 : Int) ≠ 0 by decide)]; omega), st2_ne _ (show (4 : Int) ≠ 0 by decide)]
            refine x_aload_n (dtk dt_X11_lay 38 (72, .aload_n 0, 1) rfl) rfl ?_
            refine x_aload_n (dtk dt_X11_lay 39 (73, .aload_n 0, 1) rfl) rfl ?_
            refine fg_X11_28 rfl (dtk dt_X11_lay 40 (74, .getfield 28, 3) rfl) (wk_0 hL.wf) (wm_0_3 (WF.fld 4 1 rfl (WF.arr 5 rfl (WF.fld 0 4 rfl hL.wf)))) ?_
            refine fg_X11_199 rfl (dtk dt_X11_lay 41 (77, .getfield 199, 3) rfl) (wk_4 hL.wf) (v := M 4 1 + 1) (by rw [st2_self]) ?_
            refine kc_X11_111 rfl (dtk dt_X11_lay 42 (80, .invokevirtual 111, 3) rfl) (c_X11_answer (G := G)  (WF.fld 4 1 rfl (WF.arr 5 rfl (WF.fld 0 4 rfl hL.wf)))) rfl rfl (wk_0 hL.wf) (fitR (by decide) (by decide)) (Nat.le_of_ble_eq_true rfl) (pqK ?_)
            exact r_i (dtk dt_X11_lay 43 (83, .ireturn, 1) rfl) rfl (by rw [if_pos hit, hhd]; show _ = M 36 5 + 1; omega) (by rw [if_pos hit, hhd]; rfl)
          · skip
            have hhd : hadH M o t = true := had_in (plc_yes hh c50)
            refine x_aload_n (dtk dt_X11_lay 27 (53, .aload_n 0, 1) rfl) rfl ?_
            refine x_iconst (v := 3) ⟨by decide, by decide⟩ (dtk dt_X11_lay 28 (54, .iconst 3, 1) rfl) ?_
            refine kc_X11_71 rfl (dtk dt_X11_lay 29 (55, .invokevirtual 71, 3) rfl) (c_X11_refuse (G := G)  hL.wf) rfl rfl (wk_0 hL.wf) (fitR (by decide) (by decide)) (Nat.le_of_ble_eq_true rfl) (pqK ?_)
            exact r_i (dtk dt_X11_lay 30 (58, .ireturn, 1) rfl) rfl (by rw [if_pos hit, hhd]; rfl) (by rw [if_pos hit, hhd]; rfl)
    · skip
      have hit : isTh M o t = false := (isTh_y hsp2_0).trans c15
      refine x_aload_n (dtk dt_X11_lay 10 (18, .aload_n 0, 1) rfl) rfl ?_
      refine x_iconst (v := 1) ⟨by decide, by decide⟩ (dtk dt_X11_lay 11 (19, .iconst 1, 1) rfl) ?_
      refine kc_X11_71 rfl (dtk dt_X11_lay 12 (20, .invokevirtual 71, 3) rfl) (c_X11_refuse (G := G)  hL.wf) rfl rfl (wk_0 hL.wf) (fitR (by decide) (by decide)) (Nat.le_of_ble_eq_true rfl) (pqK ?_)
      exact r_i (dtk dt_X11_lay 13 (23, .ireturn, 1) rfl) rfl (by first | (rw [isTh_n hsp2_0]; rfl) | (rw [hit]; rfl)) (by first | (rw [isTh_n hsp2_0]; rfl) | (rw [hit]; rfl))
  refine kc_X11_86 rfl (dtk dt_X11_lay 2 (2, .invokevirtual 86, 3) rfl) (c_X11_find_no (G := G)  hL.wf (by rw [hL.cnt]; exact hsp2_0)) rfl rfl (wk_0 hL.wf) (fitR (by decide) (by decide)) (Nat.le_of_ble_eq_true rfl) (pqK ?_)
  have hOn := isOr_n hsp2_0
  refine x_astore_n (dtk dt_X11_lay 3 (5, .astore_n 3, 1) rfl) (by decide) ?_
  refine x_aload_n (dtk dt_X11_lay 4 (6, .aload_n 3, 1) rfl) rfl ?_
  refine x_ifnull (tgt := 18) (dtk dt_X11_lay 5 (7, .ifnull 11, 3) rfl) (by decide) (fun c7 => ?_) (fun c7 => ?_)
  rotate_left
  · exact absurd c7 (by decide)
  refine x_aload_n (dtk dt_X11_lay 10 (18, .aload_n 0, 1) rfl) rfl ?_
  refine x_iconst (v := 1) ⟨by decide, by decide⟩ (dtk dt_X11_lay 11 (19, .iconst 1, 1) rfl) ?_
  refine kc_X11_71 rfl (dtk dt_X11_lay 12 (20, .invokevirtual 71, 3) rfl) (c_X11_refuse (G := G)  hL.wf) rfl rfl (wk_0 hL.wf) (fitR (by decide) (by decide)) (Nat.le_of_ble_eq_true rfl) (pqK ?_)
  exact r_i (dtk dt_X11_lay 13 (23, .ireturn, 1) rfl) rfl (by first | (rw [isTh_n hsp2_0]; rfl) | (rw [hit]; rfl)) (by first | (rw [isTh_n hsp2_0]; rfl) | (rw [hit]; rfl))
