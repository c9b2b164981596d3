/-! ===== the class: second rows, chains ===== -/
set_option maxRecDepth 100000 in
set_option maxHeartbeats 4000000 in
theorem c_X7_placeInSecond {G : GG} {n : Nat} {K : KK} {M : MM} {t i : Int} {p nm m : Int} {ci : Nat} {d : Int → Int} (hO : OB K M p ci nm m d) (hP : PO m d) (hT : TwoOK m d (M 20)) (h19 : M 19 1 = m) (hi : 0 ≤ i ∧ i < m) (hti : M 20 i = t) : MC G mi_X7_placeInSecond 5 0 0 [(1, 18), (1, p), (0, t)] n K M (PQ (some (0, ahN m d (M 20) i)) n K (M)) := by
  refine MC.intro (lc := [(0, (1, 18)), (1, (1, p)), (2, (0, t))]) (by decide) rfl (by simp [Nat.ble]) (Nat.le_of_ble_eq_true rfl) rfl (fun hMR => ?_)
  have hsz := hO.sz
  have hxi := (hT i hi.1 hi.2).2
  rw [hti] at hxi
  have hpl : plc m (M 20) t = i := by (rw [← hti]; exact plc_at hi (fun j j0 j1 he => hT.inj hP ⟨j0, j1⟩ hi he))
  have hcb := cnt_b (d t)
  have hahb := ahN_b hP hT hi
  refine x_aload_n (dtk dt_X7_placeInSecond 0 (0, .aload_n 1, 1) rfl) rfl ?_
  refine fg_X7_62 rfl (dtk dt_X7_placeInSecond 1 (1, .getfield 62, 3) rfl) hO.k hO.c hO.dn ?_
  refine x_iload_n (dtk dt_X7_placeInSecond 2 (4, .iload_n 2, 1) rfl) rfl ?_
  refine x_iald (dtk dt_X7_placeInSecond 3 (5, .iaload, 1) rfl) hO.kd ⟨by omega, by omega⟩ ?_
  rw [hO.dat ⟨by omega, by omega⟩]
  refine kc_X7_42 rfl (dtk dt_X7_placeInSecond 4 (6, .invokestatic 42, 3) rfl) (c_J6_bitCount_0f7a4 (G := G)  (hO.ok.2.1 t (by omega) (by omega))) rfl rfl (fitR (by decide) (by decide)) (Nat.le_of_ble_eq_true rfl) (pqK ?_)
  refine x_istore_n (dtk dt_X7_placeInSecond 5 (9, .istore_n 3, 1) rfl) (by decide) ?_
  refine x_aload_n (dtk dt_X7_placeInSecond 6 (10, .aload_n 0, 1) rfl) rfl ?_
  refine fg_X7_14 rfl (dtk dt_X7_placeInSecond 7 (11, .getfield 14, 3) rfl) (wk_18 hO.wf) (wm_18_0 hO.wf) ?_
  refine x_iload_n (dtk dt_X7_placeInSecond 8 (14, .iload_n 2, 1) rfl) rfl ?_
  refine kc_X7_102 rfl (dtk dt_X7_placeInSecond 9 (15, .invokevirtual 102, 3) rfl) (c_X3_placeOf (G := G)  (ln_19 hO.wf (by omega))) rfl rfl (wk_19 hO.wf) (fitR (by decide) (by decide)) (Nat.le_of_ble_eq_true rfl) (pqK ?_)
  change MW G _ _ _ _ _ _ ((0, plc (M 19 1) (M 20) t) :: _) _ _ _
  rw [h19, hpl]
  refine x_iconst (v := 1) ⟨by decide, by decide⟩ (dtk dt_X7_placeInSecond 10 (18, .iconst 1, 1) rfl) ?_
  refine y_iadd (dtk dt_X7_placeInSecond 11 (19, .iadd, 1) rfl) ⟨by omega, by omega⟩ ?_
  refine x_istore (dtk dt_X7_placeInSecond 12 (20, .istore 4, 2) rfl) (by decide) ?_
  have L22 : ∀ (fu : Nat) (v3 : Int) (v4 : Int), (i < v4 ∧ v4 ≤ m) → (v3 = cnt (d t) + sumZ v4 (fun j => B (decide (i < j) && apr d t (M 20 j)))) → (m - v4).toNat = fu → MW G mi_X7_placeInSecond (rmd 5 0 0) (MZ G (PQ (some (0, ahN m d (M 20) i)) n K (M)) 0 0) (0, 0) 22 [(0, (1, 18)), (1, (1, p)), (2, (0, t)), (3, (0, v3)), (4, (0, v4))] [] n K (M) := by
    intro fu
    induction fu using Nat.strongRecOn with
    | ind fu ih22 =>
      intro v3 v4 h1 h2 hk22
      have hb := sumZ_b01 (n := v4) (by omega) (fun j => decide (i < j) && apr d t (M 20 j))
      refine x_iload (dtk dt_X7_placeInSecond 13 (22, .iload 4, 2) rfl) rfl ?_
      refine x_aload_n (dtk dt_X7_placeInSecond 14 (24, .aload_n 0, 1) rfl) rfl ?_
      refine fg_X7_14 rfl (dtk dt_X7_placeInSecond 15 (25, .getfield 14, 3) rfl) (wk_18 hO.wf) (wm_18_0 hO.wf) ?_
      refine fg_X7_105 rfl (dtk dt_X7_placeInSecond 16 (28, .getfield 105, 3) rfl) (wk_19 hO.wf) (v := m) h19 ?_
      refine x_icmp_ge (tgt := 60) (dtk dt_X7_placeInSecond 17 (31, .if_icmp .ge 29, 3) rfl) (by decide) (fun c31 => ?_) (fun c31 => ?_)
      · skip
        have hv3 : v3 = ahN m d (M 20) i := by (rw [h2]; unfold ahN; rw [hti, show v4 = m by omega])
        refine x_iload_n (dtk dt_X7_placeInSecond 29 (60, .iload_n 3, 1) rfl) rfl ?_
        refine x_bipush (v := 9) ⟨by decide, by decide⟩ (dtk dt_X7_placeInSecond 30 (61, .bipush 9, 2) rfl) ?_
        refine kc_X7_115 rfl (dtk dt_X7_placeInSecond 31 (63, .invokestatic 115, 3) rfl) (c_J9_min_7cf53 (G := G)  ) rfl rfl (fitR (by decide) (by decide)) (Nat.le_of_ble_eq_true rfl) (pqK ?_)
        rw [if_neg (by omega)]
        exact r_i (dtk dt_X7_placeInSecond 32 (66, .ireturn, 1) rfl) rfl hv3 rfl
      · skip
        have hx4 := (hT v4 (by omega) (by omega)).2
        refine x_aload_n (dtk dt_X7_placeInSecond 18 (34, .aload_n 1, 1) rfl) rfl ?_
        refine x_iload_n (dtk dt_X7_placeInSecond 19 (35, .iload_n 2, 1) rfl) rfl ?_
        refine x_aload_n (dtk dt_X7_placeInSecond 20 (36, .aload_n 0, 1) rfl) rfl ?_
        refine fg_X7_14 rfl (dtk dt_X7_placeInSecond 21 (37, .getfield 14, 3) rfl) (wk_18 hO.wf) (wm_18_0 hO.wf) ?_
        refine x_iload (dtk dt_X7_placeInSecond 22 (40, .iload 4, 2) rfl) rfl ?_
        refine kc_X7_108 rfl (dtk dt_X7_placeInSecond 23 (42, .invokevirtual 108, 3) rfl) (c_X3_at (G := G)  (ln_19 hO.wf (by omega))) rfl rfl (wk_19 hO.wf) (fitR (by decide) (by decide)) (Nat.le_of_ble_eq_true rfl) (pqK ?_)
        change MW G _ _ _ _ _ _ ((0, if 0 ≤ v4 ∧ v4 < M 19 1 then M 20 v4 else -1) :: _) _ _ _
        rw [if_pos (by omega)]
        refine kc_X7_111 rfl (dtk dt_X7_placeInSecond 24 (45, .invokevirtual 111, 3) rfl) (c_X4_areUnordered (G := G)  hO (by omega) (by omega)) rfl rfl hO.k hO.c (fitR (by decide) (by decide)) (Nat.le_of_ble_eq_true rfl) (pqK ?_)
        refine x_if_eqB (tgt := 54) (dtk dt_X7_placeInSecond 25 (48, .ifCond .eq 6, 3) rfl) (by decide) (fun c48 => ?_) (fun c48 => ?_)
        · skip
          refine y_iinc (dtk dt_X7_placeInSecond 27 (54, .iinc 4 1, 3) rfl) rfl (by decide) ⟨by omega, by omega⟩ ?_
          refine x_goto (tgt := 22) (dtk dt_X7_placeInSecond 28 (57, .goto (-35), 3) rfl) (by decide) ?_
          refine MW.sub [1, 2, 3, 4, 0] rfl ?_
          exact ih22 _ (by omega) _ _ (by omega) (by rw [sumZ_s (by omega), h2]; first | (rw [c48, decide_eq_true (show i < v4 by omega)]; show _ = _ + (_ + 1); omega) | (rw [c48, Bool.and_false]; show _ = _ + (_ + 0); omega)) rfl
        · skip
          refine y_iinc (dtk dt_X7_placeInSecond 26 (51, .iinc 3 1, 3) rfl) rfl (by decide) ⟨by omega, by omega⟩ ?_
          refine y_iinc (dtk dt_X7_placeInSecond 27 (54, .iinc 4 1, 3) rfl) rfl (by decide) ⟨by omega, by omega⟩ ?_
          refine x_goto (tgt := 22) (dtk dt_X7_placeInSecond 28 (57, .goto (-35), 3) rfl) (by decide) ?_
          refine MW.sub [2, 3, 4, 1, 0] rfl ?_
          exact ih22 _ (by omega) _ _ (by omega) (by rw [sumZ_s (by omega), h2]; first | (rw [c48, decide_eq_true (show i < v4 by omega)]; show _ = _ + (_ + 1); omega) | (rw [c48, Bool.and_false]; show _ = _ + (_ + 0); omega)) rfl
  refine MW.sub [2, 3, 4, 1, 0] rfl ?_
  exact L22 _ _ _ (by omega) (by rw [sumF_false (fun j j0 j1 => by rw [decide_eq_false (by omega)]; rfl)]; omega) rfl
set_option maxRecDepth 100000 in
set_option maxHeartbeats 4000000 in
theorem c_X7_turnFirstRow {G : GG} {n : Nat} {K : KK} {M : MM} {p nm m : Int} {ci : Nat} {d : Int → Int} (hO : OB K M p ci nm m d) (hP : PO m d) (hT : TwoOK m d (M 20)) (h19 : M 19 1 = m) : MC G mi_X7_turnFirstRow 6 0 0 [(1, 18), (1, p), (1, 26)] n K M (UQ sx none n K M (fun M' => kp M M' ∧ M' 26 1 = m ∧ ∀ p, 0 ≤ p → p < m → M' 27 p = secV m d (M 20) p)) := by
  refine MC.intro (lc := [(0, (1, 18)), (1, (1, p)), (2, (1, 26))]) (by decide) rfl (by simp [Nat.ble]) (Nat.le_of_ble_eq_true rfl) rfl (fun hMR => ?_)
  have hsz := hO.sz
  refine x_iconst (v := 0) ⟨by decide, by decide⟩ (dtk dt_X7_turnFirstRow 0 (0, .iconst 0, 1) rfl) ?_
  refine x_istore_n (dtk dt_X7_turnFirstRow 1 (1, .istore_n 3, 1) rfl) (by decide) ?_
  have L2 : ∀ (fu : Nat) (v3 : Int) (M1 : MM), (0 ≤ v3 ∧ v3 ≤ m) → (sx M M1) → (∀ x, x ≠ 22 → M1 x = M x) → (∀ i, 0 ≤ i → i < m → M 20 i < v3 → M1 22 (ahN m d (M 20) i) = M 20 i) → (m - v3).toNat = fu → MW G mi_X7_turnFirstRow (rmd 6 0 0) (MZ G (UQ sx none n K M (fun M' => kp M M' ∧ M' 26 1 = m ∧ ∀ p, 0 ≤ p → p < m → M' 27 p = secV m d (M 20) p)) 0 0) (0, 0) 2 [(0, (1, 18)), (1, (1, p)), (2, (1, 26)), (3, (0, v3))] [] n K (M1) := by
    intro fu
    induction fu using Nat.strongRecOn with
    | ind fu ih2 =>
      intro v3 M1 h1 hs1 ho1 hw1 hk2
      refine x_iload_n (dtk dt_X7_turnFirstRow 2 (2, .iload_n 3, 1) rfl) rfl ?_
      refine x_aload_n (dtk dt_X7_turnFirstRow 3 (3, .aload_n 1, 1) rfl) rfl ?_
      refine fg_X7_58 rfl (dtk dt_X7_turnFirstRow 4 (4, .getfield 58, 3) rfl) hO.k hO.c (hO.off_sx hs1).n ?_
      refine x_icmp_ge (tgt := 28) (dtk dt_X7_turnFirstRow 5 (7, .if_icmp .ge 21, 3) rfl) (by decide) (fun c7 => ?_) (fun c7 => ?_)
      · skip
        have hsec : ∀ p, 0 ≤ p → p < m → M1 22 p = secV m d (M 20) p := fun p p0 p1 => by (obtain ⟨i, i0, i1, i2⟩ := ahN_surj hP hT ⟨p0, p1⟩; rw [← i2, secV_at hP hT ⟨i0, i1⟩]; exact hw1 i i0 i1 (by have := (hT i i0 i1).2; omega))
        refine x_aload_n (dtk dt_X7_turnFirstRow 16 (28, .aload_n 2, 1) rfl) rfl ?_
        refine kc_X7_74 rfl (dtk dt_X7_turnFirstRow 17 (29, .invokevirtual 74, 3) rfl) (c_X3_empty0 (G := G)  (wk_26 hO.wf)) rfl rfl (wk_26 hO.wf) (fitR (by decide) (by decide)) (Nat.le_of_ble_eq_true rfl) (pqK ?_)
        refine x_iconst (v := 0) ⟨by decide, by decide⟩ (dtk dt_X7_turnFirstRow 18 (32, .iconst 0, 1) rfl) ?_
        refine x_istore_n (dtk dt_X7_turnFirstRow 19 (33, .istore_n 3, 1) rfl) (by decide) ?_
        have L34 : ∀ (fu : Nat) (v3 : Int) (M2 : MM), (0 ≤ v3 ∧ v3 ≤ m) → (sx M M2) → (∀ x, x ≠ 26 → x ≠ 27 → M2 x = M1 x) → (M2 26 1 = v3) → (∀ p, 0 ≤ p → p < v3 → M2 27 p = secV m d (M 20) p) → (m - v3).toNat = fu → MW G mi_X7_turnFirstRow (rmd 6 0 0) (MZ G (UQ sx none n K M (fun M' => kp M M' ∧ M' 26 1 = m ∧ ∀ p, 0 ≤ p → p < m → M' 27 p = secV m d (M 20) p)) 0 0) (0, 0) 34 [(0, (1, 18)), (1, (1, p)), (2, (1, 26)), (3, (0, v3))] [] n K (M2) := by
          intro fu
          induction fu using Nat.strongRecOn with
          | ind fu ih34 =>
            intro v3 M2 h3 hs2 ho2 h6 hw2 hk34
            refine x_iload_n (dtk dt_X7_turnFirstRow 20 (34, .iload_n 3, 1) rfl) rfl ?_
            refine x_aload_n (dtk dt_X7_turnFirstRow 21 (35, .aload_n 1, 1) rfl) rfl ?_
            refine fg_X7_58 rfl (dtk dt_X7_turnFirstRow 22 (36, .getfield 58, 3) rfl) hO.k hO.c (hO.off_sx hs2).n ?_
            refine x_icmp_ge (tgt := 58) (dtk dt_X7_turnFirstRow 23 (39, .if_icmp .ge 19, 3) rfl) (by decide) (fun c39 => ?_) (fun c39 => ?_)
            · skip
              exact ru_v (dtk dt_X7_turnFirstRow 32 (58, .return_, 1) rfl) rfl hs2 ⟨⟨by rw [ho2 9 (by decide) (by decide), ho1 9 (by decide)], by rw [ho2 10 (by decide) (by decide), ho1 10 (by decide)], by rw [ho2 11 (by decide) (by decide), ho1 11 (by decide)]⟩, by omega, fun p p0 p1 => hw2 p p0 (by omega)⟩
            · skip
              refine x_aload_n (dtk dt_X7_turnFirstRow 24 (42, .aload_n 2, 1) rfl) rfl ?_
              refine x_aload_n (dtk dt_X7_turnFirstRow 25 (43, .aload_n 0, 1) rfl) rfl ?_
              refine fg_X7_24 rfl (dtk dt_X7_turnFirstRow 26 (44, .getfield 24, 3) rfl) (wk_18 hO.wf) (wm_18_2 (hO.off_sx hs2).wf) ?_
              refine x_iload_n (dtk dt_X7_turnFirstRow 27 (47, .iload_n 3, 1) rfl) rfl ?_
              refine x_iald (dtk dt_X7_turnFirstRow 28 (48, .iaload, 1) rfl) (wk_22 hO.wf) ⟨by omega, by omega⟩ ?_
              rw [ho2 22 (by decide) (by decide), hsec v3 h3.1 (by omega)]
              refine kc_X7_89 rfl (dtk dt_X7_turnFirstRow 29 (49, .invokevirtual 89, 3) rfl) (c_X3_add (G := G)  (ln_26 (hO.off_sx hs2).wf (by omega))) rfl rfl (wk_26 hO.wf) (fitR (by decide) (by decide)) (Nat.le_of_ble_eq_true rfl) (pqK ?_)
              rw [add_26 (by omega)]
              refine y_iinc (dtk dt_X7_turnFirstRow 30 (52, .iinc 3 1, 3) rfl) rfl (by decide) ⟨by omega, by omega⟩ ?_
              refine x_goto (tgt := 34) (dtk dt_X7_turnFirstRow 31 (55, .goto (-21), 3) rfl) (by decide) ?_
              refine MW.sub [1, 2, 3, 0] rfl ?_
              exact ih34 _ (by omega) _ _ (by omega) (sx.fd 26 1 rfl (sx.st 27 rfl hs2)) (fun x hx hy => by rw [st2_ne _ hx, st2_ne _ hy]; exact ho2 x hx hy) (by rw [st2_self, h6]) (fun p p0 p1 => by rw [st2_ne _ (show (27 : Int) ≠ 26 by decide), st2_up]; show (if p = M2 26 1 then _ else _) = _; rw [h6]; by_cases hq : p = v3; (focus (rw [if_pos hq, hq])); (rw [if_neg hq]; exact hw2 p p0 (by omega))) rfl
        refine MW.sub [1, 2, 3, 0] rfl ?_
        exact L34 _ _ _ (by omega) (sx.fd 26 1 rfl hs1) (fun x hx hy => by rw [st2_ne _ hx]) (by rw [st2_self]) (fun p p0 p1 => by omega) rfl
      · skip
        obtain ⟨i, i0, i1, i2⟩ := surj_of_inj (f := M 20) (fun i i0 i1 => (hT i i0 i1).2) (fun i j i0 i1 i2 he => by have := hT.inj hP ⟨i0, by omega⟩ ⟨by omega, i2⟩ he; omega) (p := v3) ⟨h1.1, by omega⟩
        have hab := ahN_b hP hT ⟨i0, i1⟩
        refine x_aload_n (dtk dt_X7_turnFirstRow 6 (10, .aload_n 0, 1) rfl) rfl ?_
        refine fg_X7_24 rfl (dtk dt_X7_turnFirstRow 7 (11, .getfield 24, 3) rfl) (wk_18 hO.wf) (wm_18_2 (hO.off_sx hs1).wf) ?_
        refine x_aload_n (dtk dt_X7_turnFirstRow 8 (14, .aload_n 0, 1) rfl) rfl ?_
        refine x_aload_n (dtk dt_X7_turnFirstRow 9 (15, .aload_n 1, 1) rfl) rfl ?_
        refine x_iload_n (dtk dt_X7_turnFirstRow 10 (16, .iload_n 3, 1) rfl) rfl ?_
        refine kc_X7_98 rfl (dtk dt_X7_turnFirstRow 11 (17, .invokevirtual 98, 3) rfl) (c_X7_placeInSecond (G := G) (i := i) (hO.off_sx hs1) hP (by rw [ho1 20 (by decide)]; exact hT) (by rw [ho1 19 (by decide)]; exact h19) ⟨i0, i1⟩ (by rw [ho1 20 (by decide)]; exact i2)) rfl rfl (wk_18 hO.wf) (fitR (by decide) (by decide)) (Nat.le_of_ble_eq_true rfl) (pqK ?_)
        rw [show ahN m d (M1 20) i = ahN m d (M 20) i from by rw [ho1 20 (by decide)]]
        refine x_iload_n (dtk dt_X7_turnFirstRow 12 (20, .iload_n 3, 1) rfl) rfl ?_
        refine x_iast (dtk dt_X7_turnFirstRow 13 (21, .iastore, 1) rfl) (wk_22 hO.wf) ⟨by omega, by omega⟩ ?_
        refine y_iinc (dtk dt_X7_turnFirstRow 14 (22, .iinc 3 1, 3) rfl) rfl (by decide) ⟨by omega, by omega⟩ ?_
        refine x_goto (tgt := 2) (dtk dt_X7_turnFirstRow 15 (25, .goto (-23), 3) rfl) (by decide) ?_
        refine MW.sub [1, 2, 3, 0] rfl ?_
        exact ih2 _ (by omega) _ _ (by omega) (sx.st 22 rfl hs1) (fun x hx => by rw [st2_ne _ hx]; exact ho1 x hx) (fun j j0 j1 j2 => by rw [st2_up]; by_cases hq : j = i; (focus (rw [hq]; exact (if_pos rfl).trans i2.symm)); (exact (if_neg (ahN_inj hP hT ⟨j0, j1⟩ ⟨i0, i1⟩ hq)).trans (hw1 j j0 j1 (by have hne : M 20 j ≠ v3 := (fun he => hq (hT.inj hP ⟨j0, j1⟩ ⟨i0, i1⟩ (by rw [he, i2]))); omega)))) rfl
  refine MW.sub [1, 2, 3, 0] rfl ?_
  exact L2 _ _ _ (by omega) sx.rf (fun _ _ => rfl) (fun i i0 i1 i2 => by have := (hT i i0 i1).2; omega) rfl
set_option maxRecDepth 100000 in
set_option maxHeartbeats 4000000 in
theorem c_X7_putIntoChains {G : GG} {n : Nat} {K : KK} {p nm m w : Int} {ci : Nat} {d : Int → Int} : ∀ (kk : Nat) {M : MM} {u t : Int}, (OB K M p ci nm m d) → (t + kk = m) → (0 ≤ t) → (0 ≤ w ∧ w ≤ 10) → (u = usd (M 22) t) → (0 ≤ u ∧ u ≤ 10) → (∀ c, 0 ≤ c → c < 10 → M 21 c = chS (M 22) t c) → (∀ i, 0 ≤ i → i < t → 0 ≤ M 22 i ∧ M 22 i < w) → MC G mi_X7_putIntoChains (5 + kk) 0 0 [(1, 18), (1, p), (0, w), (0, u), (0, t)] n K M (UQ sx (some (0, B ((srN w m (chP d w) kk t (M 22)).isSome))) n K M (fun M' => (∀ x, x ≠ 22 → x ≠ 21 → M' x = M x) ∧ (∀ i, 0 ≤ i → i < t → M' 22 i = M 22 i) ∧ ((srN w m (chP d w) kk t (M 22)).isSome = false → ∀ c, 0 ≤ c → c < 10 → M' 21 c = M 21 c) ∧ ∀ z, srN w m (chP d w) kk t (M 22) = some z → ∀ i, 0 ≤ i → i < m → M' 22 i = z i)) := by
  intro kk
  induction kk using Nat.strongRecOn with
  | ind kk ihR =>
  intro M u t hO hkk ht hw hu hub hcs hx
  refine MC.intro (lc := [(0, (1, 18)), (1, (1, p)), (2, (0, w)), (3, (0, u)), (4, (0, t))]) (by decide) rfl (by simp [Nat.ble]) (Nat.le_of_ble_eq_true rfl) rfl (fun hMR => ?_)
  have hsz := hO.sz
  have hp := p2_b hsz
  refine x_iload (dtk dt_X7_putIntoChains 0 (0, .iload 4, 2) rfl) rfl ?_
  refine x_aload_n (dtk dt_X7_putIntoChains 1 (2, .aload_n 1, 1) rfl) rfl ?_
  refine fg_X7_58 rfl (dtk dt_X7_putIntoChains 2 (3, .getfield 58, 3) rfl) hO.k hO.c hO.n ?_
  refine x_icmp_lt (tgt := 11) (dtk dt_X7_putIntoChains 3 (6, .if_icmp .lt 5, 3) rfl) (by decide) (fun c6 => ?_) (fun c6 => ?_)
  · skip
    refine x_aload_n (dtk dt_X7_putIntoChains 6 (11, .aload_n 1, 1) rfl) rfl ?_
    refine fg_X7_62 rfl (dtk dt_X7_putIntoChains 7 (12, .getfield 62, 3) rfl) hO.k hO.c hO.dn ?_
    refine x_iload (dtk dt_X7_putIntoChains 8 (15, .iload 4, 2) rfl) rfl ?_
    refine x_iald (dtk dt_X7_putIntoChains 9 (17, .iaload, 1) rfl) hO.kd ⟨by omega, by omega⟩ ?_
    rw [hO.dat ⟨by omega, by omega⟩]
    refine x_aload_n (dtk dt_X7_putIntoChains 10 (18, .aload_n 1, 1) rfl) rfl ?_
    refine fg_X7_65 rfl (dtk dt_X7_putIntoChains 11 (19, .getfield 65, 3) rfl) hO.k hO.c hO.upp ?_
    refine x_iload (dtk dt_X7_putIntoChains 12 (22, .iload 4, 2) rfl) rfl ?_
    refine x_iald (dtk dt_X7_putIntoChains 13 (24, .iaload, 1) rfl) hO.ku ⟨by omega, by omega⟩ ?_
    rw [hO.uat ⟨by omega, by omega⟩]
    refine x_ior (dtk dt_X7_putIntoChains 14 (25, .ior, 1) rfl) ?_
    refine x_istore (dtk dt_X7_putIntoChains 15 (26, .istore 5, 2) rfl) (by decide) ?_
    refine x_iconst (v := 0) ⟨by decide, by decide⟩ (dtk dt_X7_putIntoChains 16 (28, .iconst 0, 1) rfl) ?_
    refine x_istore (dtk dt_X7_putIntoChains 17 (29, .istore 6, 2) rfl) (by decide) ?_
    have L31 : ∀ (fu : Nat) (v6 : Int) (M1 : MM), (0 ≤ v6) → (sx M M1) → (∀ x, x ≠ 22 → x ≠ 21 → M1 x = M x) → (∀ i, 0 ≤ i → i < t → M1 22 i = M 22 i) → (∀ c, 0 ≤ c → c < 10 → M1 21 c = chS (M 22) t c) → (tryC (fun c => if chP d w (M 22) t c then srN w m (chP d w) (kk - 1) (t + 1) (up (M 22) t c) else none) (w - v6).toNat v6 = srN w m (chP d w) kk t (M 22)) → (w - v6).toNat = fu → MW G mi_X7_putIntoChains (rmd (5 + kk) 0 0) (MZ G (UQ sx (some (0, B ((srN w m (chP d w) kk t (M 22)).isSome))) n K M (fun M' => (∀ x, x ≠ 22 → x ≠ 21 → M' x = M x) ∧ (∀ i, 0 ≤ i → i < t → M' 22 i = M 22 i) ∧ ((srN w m (chP d w) kk t (M 22)).isSome = false → ∀ c, 0 ≤ c → c < 10 → M' 21 c = M 21 c) ∧ ∀ z, srN w m (chP d w) kk t (M 22) = some z → ∀ i, 0 ≤ i → i < m → M' 22 i = z i)) 0 0) (0, 0) 31 [(0, (1, 18)), (1, (1, p)), (2, (0, w)), (3, (0, u)), (4, (0, t)), (5, (0, zor (d t) (upS m d t))), (6, (0, v6))] [] n K (M1) := by
      intro fu
      induction fu using Nat.strongRecOn with
      | ind fu ih31 =>
        intro v6 M1 h1 hs1 ho1 hi1 hc1 h2 hk31
        refine x_iload (dtk dt_X7_putIntoChains 18 (31, .iload 6, 2) rfl) rfl ?_
        refine x_iload_n (dtk dt_X7_putIntoChains 19 (33, .iload_n 3, 1) rfl) rfl ?_
        refine x_icmp_gt (tgt := 126) (dtk dt_X7_putIntoChains 20 (34, .if_icmp .gt 92, 3) rfl) (by decide) (fun c34 => ?_) (fun c34 => ?_)
        · skip
          have hend : tryC (fun c => if chP d w (M 22) t c then srN w m (chP d w) (kk - 1) (t + 1) (up (M 22) t c) else none) (w - v6).toNat v6 = none := tryC_skip _ v6 rfl (fun e e0 e1 => if_neg (by unfold chP; rw [show decide (e ≤ usd (M 22) t) = false from decide_eq_false (by rw [← hu]; omega)]; simp))
          refine x_iconst (v := 0) ⟨by decide, by decide⟩ (dtk dt_X7_putIntoChains 77 (126, .iconst 0, 1) rfl) ?_
          exact ru_b (b := false) (dtk dt_X7_putIntoChains 78 (127, .ireturn, 1) rfl) rfl (by rw [← h2]; rw [hend]; rfl) hs1 ⟨ho1, hi1, fun _ c c0 c1 => by (rw [hc1 c c0 c1, hcs c c0 c1]), fun z hz => by (rw [← h2, hend] at hz; cases hz)⟩
        · skip
          refine x_iload (dtk dt_X7_putIntoChains 21 (37, .iload 6, 2) rfl) rfl ?_
          refine x_iload_n (dtk dt_X7_putIntoChains 22 (39, .iload_n 2, 1) rfl) rfl ?_
          refine x_icmp_ge (tgt := 126) (dtk dt_X7_putIntoChains 23 (40, .if_icmp .ge 86, 3) rfl) (by decide) (fun c40 => ?_) (fun c40 => ?_)
          · skip
            have hend : tryC (fun c => if chP d w (M 22) t c then srN w m (chP d w) (kk - 1) (t + 1) (up (M 22) t c) else none) (w - v6).toNat v6 = none := tryC_e (by omega)
            refine x_iconst (v := 0) ⟨by decide, by decide⟩ (dtk dt_X7_putIntoChains 77 (126, .iconst 0, 1) rfl) ?_
            exact ru_b (b := false) (dtk dt_X7_putIntoChains 78 (127, .ireturn, 1) rfl) rfl (by rw [← h2]; rw [hend]; rfl) hs1 ⟨ho1, hi1, fun _ c c0 c1 => by (rw [hc1 c c0 c1, hcs c c0 c1]), fun z hz => by (rw [← h2, hend] at hz; cases hz)⟩
          · skip
            refine x_aload_n (dtk dt_X7_putIntoChains 24 (43, .aload_n 0, 1) rfl) rfl ?_
            refine fg_X7_20 rfl (dtk dt_X7_putIntoChains 25 (44, .getfield 20, 3) rfl) (wk_18 hO.wf) (wm_18_1 (hO.off_sx hs1).wf) ?_
            refine x_iload (dtk dt_X7_putIntoChains 26 (47, .iload 6, 2) rfl) rfl ?_
            refine x_iald (dtk dt_X7_putIntoChains 27 (49, .iaload, 1) rfl) (wk_21 hO.wf) ⟨by omega, by omega⟩ ?_
            rw [hc1 v6 h1 (by omega)]
            have hck := chS_ok hO.ok (x := M 22) (t := t) (c := v6) ⟨ht, by omega⟩
            refine x_iload (dtk dt_X7_putIntoChains 28 (50, .iload 5, 2) rfl) rfl ?_
            refine x_iconst (v := -1) ⟨by decide, by decide⟩ (dtk dt_X7_putIntoChains 29 (52, .iconst (-1), 1) rfl) ?_
            refine x_ixor (dtk dt_X7_putIntoChains 30 (53, .ixor, 1) rfl) ?_
            refine x_iand (dtk dt_X7_putIntoChains 31 (54, .iand, 1) rfl) ?_
            refine x_if_ne (tgt := 120) (dtk dt_X7_putIntoChains 32 (55, .ifCond .ne 65, 3) rfl) (by decide) (fun c55 => ?_) (fun c55 => ?_)
            · skip
              refine y_iinc (dtk dt_X7_putIntoChains 75 (120, .iinc 6 1, 3) rfl) rfl (by decide) ⟨by omega, by omega⟩ ?_
              refine x_goto (tgt := 31) (dtk dt_X7_putIntoChains 76 (123, .goto (-92), 3) rfl) (by decide) ?_
              refine MW.sub [1, 2, 3, 4, 5, 6, 0] rfl ?_
              exact ih31 _ (by omega) _ _ (by omega) hs1 (by first | exact ho1 | exact (fun x hx hy => by rw [st2_ne _ hy, hE.1 x hx hy, st2_ne _ hx, st2_ne _ hy]; exact ho1 x hx hy)) (by first | exact hi1 | exact (fun i i0 i1 => by rw [st2_ne _ (show (22 : Int) ≠ 21 by decide), hE.2.1 i i0 (by omega), st2_up]; exact (if_neg (by omega)).trans (by rw [st2_ne _ (show (22 : Int) ≠ 21 by decide)]; exact hi1 i i0 i1))) (by first | exact hc1 | exact (fun c c0 c1 => by rw [st2_up]; show (if c = v6 then _ else _) = _; by_cases hq : c = v6; (focus (rw [if_pos hq, hq, hch6, hc1 v6 h1 (by omega)]; exact zdif_plus ⟨ht, by omega⟩)); (rw [if_neg hq, hE.2.2.1 c70 c c0 c1, st2_ne _ (show (21 : Int) ≠ 22 by decide), st2_up]; exact (if_neg hq).trans (hc1 c c0 c1)))) (by rw [tryC_s (by omega)] at h2; rw [← h2]; first | (rw [if_pos hgp, hnone, Option.none_or]; done) | (rw [if_neg (show ¬ chP d w (M 22) t v6 = true from by unfold chP; rw [← hck, decide_eq_false c55]; simp), Option.none_or])) rfl
            · skip
              have hgp : chP d w (M 22) t v6 = true := by (unfold chP; rw [← hck, decide_eq_true (Classical.not_not.mp c55), decide_eq_true (by rw [← hu]; omega), decide_eq_true (by omega)]; rfl)
              refine x_aload_n (dtk dt_X7_putIntoChains 33 (58, .aload_n 0, 1) rfl) rfl ?_
              refine fg_X7_20 rfl (dtk dt_X7_putIntoChains 34 (59, .getfield 20, 3) rfl) (wk_18 hO.wf) (wm_18_1 (hO.off_sx hs1).wf) ?_
              refine x_iload (dtk dt_X7_putIntoChains 35 (62, .iload 6, 2) rfl) rfl ?_
              refine x_dup2 rfl rfl (dtk dt_X7_putIntoChains 36 (64, .dup2, 1) rfl) ?_
              refine x_iald (dtk dt_X7_putIntoChains 37 (65, .iaload, 1) rfl) (wk_21 hO.wf) ⟨by omega, by omega⟩ ?_
              refine x_iconst (v := 1) ⟨by decide, by decide⟩ (dtk dt_X7_putIntoChains 38 (66, .iconst 1, 1) rfl) ?_
              refine x_iload (dtk dt_X7_putIntoChains 39 (67, .iload 4, 2) rfl) rfl ?_
              refine x_ishl (dtk dt_X7_putIntoChains 40 (69, .ishl, 1) rfl) ?_
              refine x_ior (dtk dt_X7_putIntoChains 41 (70, .ior, 1) rfl) ?_
              refine x_iast (dtk dt_X7_putIntoChains 42 (71, .iastore, 1) rfl) (wk_21 hO.wf) ⟨by omega, by omega⟩ ?_
              refine x_aload_n (dtk dt_X7_putIntoChains 43 (72, .aload_n 0, 1) rfl) rfl ?_
              refine fg_X7_24 rfl (dtk dt_X7_putIntoChains 44 (73, .getfield 24, 3) rfl) (wk_18 hO.wf) (wm_18_2 (hO.off_sx (sx.st 21 rfl hs1)).wf) ?_
              refine x_iload (dtk dt_X7_putIntoChains 45 (76, .iload 4, 2) rfl) rfl ?_
              refine x_iload (dtk dt_X7_putIntoChains 46 (78, .iload 6, 2) rfl) rfl ?_
              refine x_iast (dtk dt_X7_putIntoChains 47 (80, .iastore, 1) rfl) (wk_22 hO.wf) ⟨by omega, by omega⟩ ?_
              refine x_aload_n (dtk dt_X7_putIntoChains 48 (81, .aload_n 0, 1) rfl) rfl ?_
              refine x_aload_n (dtk dt_X7_putIntoChains 49 (82, .aload_n 1, 1) rfl) rfl ?_
              refine x_iload_n (dtk dt_X7_putIntoChains 50 (83, .iload_n 2, 1) rfl) rfl ?_
              refine x_iload_n (dtk dt_X7_putIntoChains 51 (84, .iload_n 3, 1) rfl) rfl ?_
              refine x_iload (dtk dt_X7_putIntoChains 52 (85, .iload 6, 2) rfl) rfl ?_
              refine x_iconst (v := 1) ⟨by decide, by decide⟩ (dtk dt_X7_putIntoChains 53 (87, .iconst 1, 1) rfl) ?_
              refine y_iadd (dtk dt_X7_putIntoChains 54 (88, .iadd, 1) rfl) ⟨by omega, by omega⟩ ?_
              refine kc_X7_68 rfl (dtk dt_X7_putIntoChains 55 (89, .invokestatic 68, 3) rfl) (c_J9_max_7cf53 (G := G)  ) rfl rfl (fitR (by omega) (by decide)) (Nat.le_of_ble_eq_true rfl) (pqK ?_)
              rw [show (if u < v6 + 1 then v6 + 1 else u) = (if u ≤ v6 then v6 + 1 else u) from by (by_cases hq : u ≤ v6; (rw [if_pos hq, if_pos (by omega)]); (rw [if_neg hq, if_neg (by omega)]))]
              refine x_iload (dtk dt_X7_putIntoChains 56 (92, .iload 4, 2) rfl) rfl ?_
              refine x_iconst (v := 1) ⟨by decide, by decide⟩ (dtk dt_X7_putIntoChains 57 (94, .iconst 1, 1) rfl) ?_
              refine y_iadd (dtk dt_X7_putIntoChains 58 (95, .iadd, 1) rfl) ⟨by omega, by omega⟩ ?_
              refine kc_X7_54 rfl (dtk dt_X7_putIntoChains 59 (96, .invokevirtual 54, 3) rfl) (ihR (kk - 1) (by omega) (M := (st2 (st2 M1 21 v6 (zor (M1 21 v6) (zshl 1 t))) 22 t v6)) (u := if u ≤ v6 then v6 + 1 else u) (t := t + 1) (hO.off_sx (sx.st 22 rfl (sx.st 21 rfl hs1))) (by omega) (by omega) hw (by rw [st2_up, usd_up ht, usd_congr (x := st2 M1 21 v6 (zor (M1 21 v6) (zshl 1 t)) 22) (y := M 22) (t := t) (fun i i0 i1 => by rw [st2_ne _ (show (22 : Int) ≠ 21 by decide)]; exact hi1 i i0 i1), ← hu]) (by split <;> omega) (fun c c0 c1 => by rw [st2_ne _ (show (21 : Int) ≠ 22 by decide), st2_up, st2_up, chS_up ⟨ht, by omega⟩, show chS (st2 M1 21 v6 (zor (M1 21 v6) (zshl 1 t)) 22) t c = chS (M 22) t c from mk_congr (fun a a0 a1 => by rw [st2_ne _ (show (22 : Int) ≠ 21 by decide), hi1 a a0 a1])]; show (if c = v6 then _ else _) = _; by_cases hq : c = v6; (rw [if_pos hq, if_pos hq.symm, hq, hc1 v6 h1 (by omega)]); (rw [if_neg hq, if_neg (fun e => hq e.symm)]; exact hc1 c c0 c1)) (fun i i0 i1 => by rw [st2_up]; show 0 ≤ (if i = t then v6 else _) ∧ (if i = t then v6 else _) < w; split; omega; (rw [st2_ne _ (show (22 : Int) ≠ 21 by decide), hi1 i i0 (by omega)]; exact hx i i0 (by omega)))) rfl rfl (wk_18 hO.wf) (fitR (by omega) (by decide)) (Nat.le_of_ble_eq_true rfl) (uqK (fun M96_1 hs96_1 hE96_1 => ?_))
              have hE := hE96_1
              have hsr : srN w m (chP d w) (kk - 1) (t + 1) ((st2 (st2 M1 21 v6 (zor (M1 21 v6) (zshl 1 t))) 22 t v6) 22) = srN w m (chP d w) (kk - 1) (t + 1) (up (M 22) t v6) := by (rw [st2_up]; exact srN_congr (chP_loc d w) _ _ _ _ (by omega) (fun i i0 i1 => by unfold up; split; rfl; (rw [st2_ne _ (show (22 : Int) ≠ 21 by decide)]; exact hi1 i i0 (by omega))))
              rw [hsr] at hE
              rw [hsr]
              refine x_if_eqB (tgt := 104) (dtk dt_X7_putIntoChains 60 (99, .ifCond .eq 5, 3) rfl) (by decide) (fun c99 => ?_) (fun c99 => ?_)
              · skip
                have c70 := c99
                have hnone : srN w m (chP d w) (kk - 1) (t + 1) (up (M 22) t v6) = none := Option.isNone_iff_eq_none.mp (Option.isSome_eq_false_iff.mp c99)
                have hch6 : M96_1 21 v6 = zor (M1 21 v6) (zshl 1 t) := by (rw [hE.2.2.1 c99 v6 h1 (by omega), st2_ne _ (show (21 : Int) ≠ 22 by decide), st2_self])
                refine x_aload_n (dtk dt_X7_putIntoChains 63 (104, .aload_n 0, 1) rfl) rfl ?_
                refine fg_X7_20 rfl (dtk dt_X7_putIntoChains 64 (105, .getfield 20, 3) rfl) (wk_18 hO.wf) (wm_18_1 (hO.off_sx ((sx.st 22 rfl (sx.st 21 rfl hs1)).tr hs96_1)).wf) ?_
                refine x_iload (dtk dt_X7_putIntoChains 65 (108, .iload 6, 2) rfl) rfl ?_
                refine x_dup2 rfl rfl (dtk dt_X7_putIntoChains 66 (110, .dup2, 1) rfl) ?_
                refine x_iald (dtk dt_X7_putIntoChains 67 (111, .iaload, 1) rfl) (wk_21 hO.wf) ⟨by omega, by omega⟩ ?_
                refine x_iconst (v := 1) ⟨by decide, by decide⟩ (dtk dt_X7_putIntoChains 68 (112, .iconst 1, 1) rfl) ?_
                refine x_iload (dtk dt_X7_putIntoChains 69 (113, .iload 4, 2) rfl) rfl ?_
                refine x_ishl (dtk dt_X7_putIntoChains 70 (115, .ishl, 1) rfl) ?_
                refine x_iconst (v := -1) ⟨by decide, by decide⟩ (dtk dt_X7_putIntoChains 71 (116, .iconst (-1), 1) rfl) ?_
                refine x_ixor (dtk dt_X7_putIntoChains 72 (117, .ixor, 1) rfl) ?_
                refine x_iand (dtk dt_X7_putIntoChains 73 (118, .iand, 1) rfl) ?_
                refine x_iast (dtk dt_X7_putIntoChains 74 (119, .iastore, 1) rfl) (wk_21 hO.wf) ⟨by omega, by omega⟩ ?_
                refine y_iinc (dtk dt_X7_putIntoChains 75 (120, .iinc 6 1, 3) rfl) rfl (by decide) ⟨by omega, by omega⟩ ?_
                refine x_goto (tgt := 31) (dtk dt_X7_putIntoChains 76 (123, .goto (-92), 3) rfl) (by decide) ?_
                refine MW.sub [1, 2, 3, 4, 5, 6, 0] rfl ?_
                exact ih31 _ (by omega) _ _ (by omega) (sx.st 21 rfl ((sx.st 22 rfl (sx.st 21 rfl hs1)).tr hs96_1)) (by first | exact ho1 | exact (fun x hx hy => by rw [st2_ne _ hy, hE.1 x hx hy, st2_ne _ hx, st2_ne _ hy]; exact ho1 x hx hy)) (by first | exact hi1 | exact (fun i i0 i1 => by rw [st2_ne _ (show (22 : Int) ≠ 21 by decide), hE.2.1 i i0 (by omega), st2_up]; exact (if_neg (by omega)).trans (by rw [st2_ne _ (show (22 : Int) ≠ 21 by decide)]; exact hi1 i i0 i1))) (by first | exact hc1 | exact (fun c c0 c1 => by rw [st2_up]; show (if c = v6 then _ else _) = _; by_cases hq : c = v6; (focus (rw [if_pos hq, hq, hch6, hc1 v6 h1 (by omega)]; exact zdif_plus ⟨ht, by omega⟩)); (rw [if_neg hq, hE.2.2.1 c70 c c0 c1, st2_ne _ (show (21 : Int) ≠ 22 by decide), st2_up]; exact (if_neg hq).trans (hc1 c c0 c1)))) (by rw [tryC_s (by omega)] at h2; rw [← h2]; first | (rw [if_pos hgp, hnone, Option.none_or]; done) | (rw [if_neg (show ¬ chP d w (M 22) t v6 = true from by unfold chP; rw [← hck, decide_eq_false c55]; simp), Option.none_or])) rfl
              · skip
                have hsome : srN w m (chP d w) kk t (M 22) = srN w m (chP d w) (kk - 1) (t + 1) (up (M 22) t v6) := by (rw [← h2, tryC_s (by omega), if_pos hgp]; obtain ⟨z, hz⟩ := Option.isSome_iff_exists.mp c99; rw [hz]; rfl)
                refine x_iconst (v := 1) ⟨by decide, by decide⟩ (dtk dt_X7_putIntoChains 61 (102, .iconst 1, 1) rfl) ?_
                exact ru_b (b := true) (dtk dt_X7_putIntoChains 62 (103, .ireturn, 1) rfl) rfl (by rw [hsome, c99]) ((sx.st 22 rfl (sx.st 21 rfl hs1)).tr hs96_1) ⟨fun x hx hy => by (rw [hE.1 x hx hy, st2_ne _ hx, st2_ne _ hy]; exact ho1 x hx hy), fun i i0 i1 => by (rw [hE.2.1 i i0 (by omega), st2_up]; exact (if_neg (by omega)).trans (by rw [st2_ne _ (show (22 : Int) ≠ 21 by decide)]; exact hi1 i i0 i1)), fun hq => by (rw [hsome, c99] at hq; cases hq), fun z hz => hE.2.2.2 z (by rw [← hsome]; exact hz)⟩
    refine MW.sub [2, 3, 4, 5, 6, 1, 0] rfl ?_
    exact L31 _ _ _ (by omega) sx.rf (fun x _ _ => rfl) (fun i _ _ => rfl) hcs (by rw [show kk = (kk - 1) + 1 by omega, Int.sub_zero]; rfl) rfl
  · skip
    refine x_iconst (v := 1) ⟨by decide, by decide⟩ (dtk dt_X7_putIntoChains 4 (9, .iconst 1, 1) rfl) ?_
    exact ru_b (b := true) (dtk dt_X7_putIntoChains 5 (10, .ireturn, 1) rfl) rfl (by rw [show kk = 0 by omega]; rfl) sx.rf ⟨fun x _ _ => rfl, fun i _ _ => rfl, fun _ _ _ _ => rfl, fun z hz i i0 i1 => by (rw [show kk = 0 by omega] at hz; rw [← Option.some.inj hz]; unfold nrm; rw [if_pos ⟨i0, i1⟩])⟩
set_option maxRecDepth 100000 in
set_option maxHeartbeats 4000000 in
theorem c_X7_chainOf {G : GG} {n : Nat} {K : KK} {M : MM} {t : Int} {p nm m : Int} {ci : Nat} {d : Int → Int} (hO : OB K M p ci nm m d) (ht : 0 ≤ t ∧ t < m) : MC G mi_X7_chainOf 17 0 0 [(1, 18), (1, p), (0, t)] n K M (UQ sx (some (0, oat (chR m d) t)) n K M (kp M)) := by
  refine MC.intro (lc := [(0, (1, 18)), (1, (1, p)), (2, (0, t))]) (by decide) rfl (by simp [Nat.ble]) (Nat.le_of_ble_eq_true rfl) rfl (fun hMR => ?_)
  have hsz := hO.sz
  have hW := cnt_b (wide m d)
  refine x_aload_n (dtk dt_X7_chainOf 0 (0, .aload_n 1, 1) rfl) rfl ?_
  refine kc_X7_36 rfl (dtk dt_X7_chainOf 1 (1, .invokevirtual 36, 3) rfl) (c_X4_widestBits (G := G)  hO) rfl rfl hO.k hO.c (fitR (by decide) (by decide)) (Nat.le_of_ble_eq_true rfl) (pqK ?_)
  refine kc_X7_42 rfl (dtk dt_X7_chainOf 2 (4, .invokestatic 42, 3) rfl) (c_J6_bitCount_0f7a4 (G := G)  (wide_b hsz (p2 m) (Int.le_refl _))) rfl rfl (fitR (by decide) (by decide)) (Nat.le_of_ble_eq_true rfl) (pqK ?_)
  change MW G _ _ _ _ _ _ ((0, cnt (wide m d)) :: _) _ _ _
  refine x_istore_n (dtk dt_X7_chainOf 3 (7, .istore_n 3, 1) rfl) (by decide) ?_
  refine x_aload_n (dtk dt_X7_chainOf 4 (8, .aload_n 0, 1) rfl) rfl ?_
  refine fg_X7_20 rfl (dtk dt_X7_chainOf 5 (9, .getfield 20, 3) rfl) (wk_18 hO.wf) (wm_18_1 hO.wf) ?_
  refine x_iconst (v := 0) ⟨by decide, by decide⟩ (dtk dt_X7_chainOf 6 (12, .iconst 0, 1) rfl) ?_
  refine kc_X7_48 rfl (dtk dt_X7_chainOf 7 (13, .invokestatic 48, 3) rfl) (c_J7_fill_53178 (G := G) (q := 21) (ln := 10) (wk_21 hO.wf) (by decide)) rfl rfl (fitR (by decide) (by decide)) (Nat.le_of_ble_eq_true rfl) (pqK ?_)
  refine x_aload_n (dtk dt_X7_chainOf 8 (16, .aload_n 0, 1) rfl) rfl ?_
  refine x_aload_n (dtk dt_X7_chainOf 9 (17, .aload_n 1, 1) rfl) rfl ?_
  refine x_iload_n (dtk dt_X7_chainOf 10 (18, .iload_n 3, 1) rfl) rfl ?_
  refine x_iconst (v := 0) ⟨by decide, by decide⟩ (dtk dt_X7_chainOf 11 (19, .iconst 0, 1) rfl) ?_
  refine x_iconst (v := 0) ⟨by decide, by decide⟩ (dtk dt_X7_chainOf 12 (20, .iconst 0, 1) rfl) ?_
  refine kc_X7_54 rfl (dtk dt_X7_chainOf 13 (21, .invokevirtual 54, 3) rfl) (c_X7_putIntoChains (G := G) m.toNat (u := 0) (t := 0) (hO.off_sx (sx.sa 21 rfl sx.rf)) (by omega) (by omega) hW rfl (by omega) (fun c c0 c1 => by rw [setA_at]; exact if_pos ⟨c0, c1⟩) (fun i i0 i1 => by omega)) rfl rfl (wk_18 hO.wf) (fitR (by omega) (by decide)) (Nat.le_of_ble_eq_true rfl) (uqK (fun M21_1 hs21_1 hE21_1 => ?_))
  have hE := hE21_1
  rw [ch_top (by omega)] at hE
  rw [ch_top (by omega)]
  refine x_if_eqB (tgt := 36) (dtk dt_X7_chainOf 14 (24, .ifCond .eq 12, 3) rfl) (by decide) (fun c24 => ?_) (fun c24 => ?_)
  · skip
    have hz : chR m d = none := Option.isNone_iff_eq_none.mp (Option.isSome_eq_false_iff.mp c24)
    refine x_iconst (v := -1) ⟨by decide, by decide⟩ (dtk dt_X7_chainOf 20 (36, .iconst (-1), 1) rfl) ?_
    exact ru_i (dtk dt_X7_chainOf 21 (37, .ireturn, 1) rfl) rfl (by rw [hz]; rfl) ((sx.sa 21 rfl sx.rf).tr hs21_1) ⟨by rw [hE.1 9 (by decide) (by decide), setA_ne _ (show (9 : Int) ≠ 21 by decide)], by rw [hE.1 10 (by decide) (by decide), setA_ne _ (show (10 : Int) ≠ 21 by decide)], by rw [hE.1 11 (by decide) (by decide), setA_ne _ (show (11 : Int) ≠ 21 by decide)]⟩
  · skip
    obtain ⟨z, hz⟩ := Option.isSome_iff_exists.mp c24
    refine x_aload_n (dtk dt_X7_chainOf 15 (27, .aload_n 0, 1) rfl) rfl ?_
    refine fg_X7_24 rfl (dtk dt_X7_chainOf 16 (28, .getfield 24, 3) rfl) (wk_18 hO.wf) (wm_18_2 (hO.off_sx ((sx.sa 21 rfl sx.rf).tr hs21_1)).wf) ?_
    refine x_iload_n (dtk dt_X7_chainOf 17 (31, .iload_n 2, 1) rfl) rfl ?_
    refine x_iald (dtk dt_X7_chainOf 18 (32, .iaload, 1) rfl) (wk_22 hO.wf) ⟨by omega, by omega⟩ ?_
    rw [hE.2.2.2 z hz t ht.1 ht.2]
    refine x_goto (tgt := 37) (dtk dt_X7_chainOf 19 (33, .goto 4, 3) rfl) (by decide) ?_
    exact ru_i (dtk dt_X7_chainOf 21 (37, .ireturn, 1) rfl) rfl (by rw [hz]; rfl) ((sx.sa 21 rfl sx.rf).tr hs21_1) ⟨by rw [hE.1 9 (by decide) (by decide), setA_ne _ (show (9 : Int) ≠ 21 by decide)], by rw [hE.1 10 (by decide) (by decide), setA_ne _ (show (10 : Int) ≠ 21 by decide)], by rw [hE.1 11 (by decide) (by decide), setA_ne _ (show (11 : Int) ≠ 21 by decide)]⟩
