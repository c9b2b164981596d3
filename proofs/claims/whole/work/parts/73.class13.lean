/-! ===== the class: making orders ===== -/
set_option maxRecDepth 100000 in
set_option maxHeartbeats 4000000 in
theorem c_X11_take {G : GG} {n : Nat} {K : KK} {M : MM} {p : Int} {ci : Nat} (hw : WF K M) (hk : K p = (0, ci)) (hc : isO ci) (h8 : 0 ≤ M 0 1 ∧ M 0 1 < 8) : MC G mi_X11_take 2 0 0 [(1, 0), (1, p)] n K M (PQ (some (0, M 0 1)) n K (tkM M p)) := by
  refine MC.intro (lc := [(0, (1, 0)), (1, (1, p))]) (by decide) rfl (by simp [Nat.ble]) (Nat.le_of_ble_eq_true rfl) rfl (fun hMR => ?_)
  refine x_aload_n (dtk dt_X11_take 0 (0, .aload_n 0, 1) rfl) rfl ?_
  refine fg_X11_15 rfl (dtk dt_X11_take 1 (1, .getfield 15, 3) rfl) (wk_0 hw) rfl ?_
  refine x_bipush (v := 8) ⟨by decide, by decide⟩ (dtk dt_X11_take 2 (4, .bipush 8, 2) rfl) ?_
  refine x_icmp_lt (tgt := 15) (dtk dt_X11_take 3 (6, .if_icmp .lt 9, 3) rfl) (by decide) (fun c6 => ?_) (fun c6 => ?_)
  · skip
    refine x_aload_n (dtk dt_X11_take 8 (15, .aload_n 0, 1) rfl) rfl ?_
    refine fg_X11_11 rfl (dtk dt_X11_take 9 (16, .getfield 11, 3) rfl) (wk_0 hw) (wm_0_0 hw) ?_
    refine x_aload_n (dtk dt_X11_take 10 (19, .aload_n 0, 1) rfl) rfl ?_
    refine fg_X11_15 rfl (dtk dt_X11_take 11 (20, .getfield 15, 3) rfl) (wk_0 hw) rfl ?_
    refine x_aload_n (dtk dt_X11_take 12 (23, .aload_n 1, 1) rfl) rfl ?_
    refine x_aast (dtk dt_X11_take 13 (24, .aastore, 1) rfl) (wk_1 hw) ⟨by omega, by omega⟩ hk (isO_cl hc).1 (isO_cl hc).2 ?_
    refine x_aload_n (dtk dt_X11_take 14 (25, .aload_n 0, 1) rfl) rfl ?_
    refine x_dup rfl (dtk dt_X11_take 15 (26, .dup, 1) rfl) ?_
    refine fg_X11_15 rfl (dtk dt_X11_take 16 (27, .getfield 15, 3) rfl) (wk_0 hw) (v := M 0 1) (by rw [st2_ne _ (show (0 : Int) ≠ 1 by decide)]) ?_
    refine x_iconst (v := 1) ⟨by decide, by decide⟩ (dtk dt_X11_take 17 (30, .iconst 1, 1) rfl) ?_
    refine y_iadd (dtk dt_X11_take 18 (31, .iadd, 1) rfl) ⟨by omega, by omega⟩ ?_
    refine fp_X11_15 rfl (dtk dt_X11_take 19 (32, .putfield 15, 3) rfl) (wk_0 hw) ?_
    refine x_aload_n (dtk dt_X11_take 20 (35, .aload_n 0, 1) rfl) rfl ?_
    refine x_aload_n (dtk dt_X11_take 21 (36, .aload_n 0, 1) rfl) rfl ?_
    refine fg_X11_15 rfl (dtk dt_X11_take 22 (37, .getfield 15, 3) rfl) (wk_0 hw) (v := M 0 1 + 1) (by rw [st2_self]) ?_
    refine x_iconst (v := 1) ⟨by decide, by decide⟩ (dtk dt_X11_take 23 (40, .iconst 1, 1) rfl) ?_
    refine y_isub (dtk dt_X11_take 24 (41, .isub, 1) rfl) ⟨by omega, by omega⟩ ?_
    refine kc_X11_111 rfl (dtk dt_X11_take 25 (42, .invokevirtual 111, 3) rfl) (c_X11_answer (G := G)  (WF.fld 0 1 rfl (WF.arr 1 rfl hw))) rfl rfl (wk_0 hw) (fitR (by decide) (by decide)) (Nat.le_of_ble_eq_true rfl) (pqK ?_)
    exact r_i (dtk dt_X11_take 26 (45, .ireturn, 1) rfl) rfl (by omega) rfl
  · skip
    exact absurd c6 (by omega)
set_option maxRecDepth 100000 in
set_option maxHeartbeats 4000000 in
theorem c_X11_order {G : GG} {n : Nat} {K : KK} {M : MM} {q : Int} (hL : LK K M) (hn : 55 ≤ n ∧ n < 50000) : MC G mi_X11_order 3 3 25 [(1, 0), (0, q)] n K M (makQ n K M ((0 ≤ q ∧ q ≤ 10) ∧ M 36 0 < 8) (if 0 ≤ q ∧ q ≤ 10 then 2 else 1) 4 q (fun _ _ => false)) := by
  refine MC.intro (lc := [(0, (1, 0)), (1, (0, q))]) (by decide) rfl (by simp [Nat.ble]) (Nat.le_of_ble_eq_true rfl) rfl (fun hMR => ?_)
  have hc8 := hL.c8
  refine MW.factK (fun hf => ?_)
  refine x_iload_n (dtk dt_X11_order 0 (0, .iload_n 1, 1) rfl) rfl ?_
  refine x_if_lt (tgt := 10) (dtk dt_X11_order 1 (1, .ifCond .lt 9, 3) rfl) (by decide) (fun c1 => ?_) (fun c1 => ?_)
  · skip
    refine x_aload_n (dtk dt_X11_order 5 (10, .aload_n 0, 1) rfl) rfl ?_
    refine x_iconst (v := 1) ⟨by decide, by decide⟩ (dtk dt_X11_order 6 (11, .iconst 1, 1) rfl) ?_
    refine kc_X11_71 rfl (dtk dt_X11_order 7 (12, .invokevirtual 71, 3) rfl) (c_X11_refuse (G := G)  hL.wf) rfl rfl (wk_0 hL.wf) (fitG (by decide) (by decide) (by decide) (by decide)) (Nat.le_of_ble_eq_true rfl) (pqK ?_)
    refine MW.widen (k1 := 3) (k2 := 25) (by decide) (by decide) ?_
    exact x_iret (dtk dt_X11_order 8 (15, .ireturn, 1) rfl) rfl ⟨fun hc => absurd hc (by omega), fun _ => ⟨rfl, by (rw [if_neg (by omega)]; exact ref_fin hL sx.rf hL.rc)⟩⟩
  · skip
    refine x_iload_n (dtk dt_X11_order 2 (4, .iload_n 1, 1) rfl) rfl ?_
    refine x_bipush (v := 10) ⟨by decide, by decide⟩ (dtk dt_X11_order 3 (5, .bipush 10, 2) rfl) ?_
    refine x_icmp_le (tgt := 16) (dtk dt_X11_order 4 (7, .if_icmp .le 9, 3) rfl) (by decide) (fun c7 => ?_) (fun c7 => ?_)
    · skip
      refine x_aload_n (dtk dt_X11_order 9 (16, .aload_n 0, 1) rfl) rfl ?_
      refine x_iload_n (dtk dt_X11_order 10 (17, .iload_n 1, 1) rfl) rfl ?_
      refine kc_X11_75 rfl (dtk dt_X11_order 11 (18, .invokevirtual 75, 3) rfl) (c_X11_hasRoom (G := G)  hL.wf) rfl rfl (wk_0 hL.wf) (fitG (by decide) (by decide) (by decide) (by decide)) (Nat.le_of_ble_eq_true rfl) (pqK ?_)
      refine x_if_neB (tgt := 30) (dtk dt_X11_order 12 (21, .ifCond .ne 9, 3) rfl) (by decide) (fun c21 => ?_) (fun c21 => ?_)
      · skip
        have h8 : M 36 0 < 8 := by (have hz := hL.cnt; simp at c21; omega)
        refine x_aload_n (dtk dt_X11_order 17 (30, .aload_n 0, 1) rfl) rfl ?_
        refine x_new (ci := 4) (dtk dt_X11_order 18 (31, .new 9, 3) rfl) cl_4 cd_4 w109 w268 w93 (by omega) ⟨by decide, by decide⟩ ?_
        have hw1 : WF (upK K ((n : Nat) : Int) (0, 4)) (zM M ((n : Nat) : Int) (fT 4)) := wf_new hL.wf (by omega)
        refine x_dup rfl (dtk dt_X11_order 19 (34, .dup, 1) rfl) ?_
        refine x_aload_n (dtk dt_X11_order 20 (35, .aload_n 0, 1) rfl) rfl ?_
        refine fg_X11_15 rfl (dtk dt_X11_order 21 (36, .getfield 15, 3) rfl) (wk_0 hw1) (v := M 36 0) (by rw [zM_ne _ (by omega)]; exact hL.cnt) ?_
        refine x_iload_n (dtk dt_X11_order 22 (39, .iload_n 1, 1) rfl) rfl ?_
        refine kc_X11_79 rfl (dtk dt_X11_order 23 (40, .invokespecial 79, 3) rfl) (c_X4_init (G := G) (p := ((n : Nat) : Int)) (ci := 4) hw1 (upK_self _ _ _) (by unfold isO; decide) (by omega) (by omega) (by omega) (by omega)) rfl rfl (by omega) (fitG (by decide) (by decide) (by decide) (by decide)) (Nat.le_of_ble_eq_true rfl) (fun rr40 n40 K40 M40 hq40 => ?_)
        obtain ⟨rfl, hn40, hK40, hO40, hl40⟩ := hq40
        replace hK40 := upK3 hK40
        replace hl40 : ∀ x : Int, x < n → M40 x = M x := fun x hx => (hl40 x hx).trans (zM_ne _ (by omega))
        have hw40 := hO40.wf
        refine kc_X11_82 rfl (dtk dt_X11_order 24 (43, .invokevirtual 82, 3) rfl) (c_X11_take (G := G) (p := ((n : Nat) : Int)) hw40 hO40.k hO40.c (by rw [hl40 0 (by omega), hL.cnt]; omega)) rfl rfl (wk_0 hw40) (fitG (by decide) (by decide) (by decide) (by decide)) (Nat.le_of_ble_eq_true rfl) (pqK ?_)
        exact x_iret (dtk dt_X11_order 25 (46, .ireturn, 1) rfl) rfl (by have hz := made_fin hL sx.rf hL.rc hf (by omega) (show n40 = n + 3 by omega) hK40 hO40 hl40; exact ⟨fun _ => ⟨by rw [hz.1], _, hz.2, fun x y _ _ _ _ => rel_0 x y, fun _ _ _ => rfl⟩, fun hc => absurd ⟨by omega, h8⟩ hc⟩)
      · skip
        have h8 : ¬ M 36 0 < 8 := by (have hz := hL.cnt; simp at c21; omega)
        refine x_aload_n (dtk dt_X11_order 13 (24, .aload_n 0, 1) rfl) rfl ?_
        refine x_iconst (v := 2) ⟨by decide, by decide⟩ (dtk dt_X11_order 14 (25, .iconst 2, 1) rfl) ?_
        refine kc_X11_71 rfl (dtk dt_X11_order 15 (26, .invokevirtual 71, 3) rfl) (c_X11_refuse (G := G)  hL.wf) rfl rfl (wk_0 hL.wf) (fitG (by decide) (by decide) (by decide) (by decide)) (Nat.le_of_ble_eq_true rfl) (pqK ?_)
        refine MW.widen (k1 := 3) (k2 := 25) (by decide) (by decide) ?_
        exact x_iret (dtk dt_X11_order 16 (29, .ireturn, 1) rfl) rfl ⟨fun hc => absurd hc (by omega), fun _ => ⟨rfl, by (rw [if_pos (by omega)]; exact ref_fin hL sx.rf hL.rc)⟩⟩
    · skip
      refine x_aload_n (dtk dt_X11_order 5 (10, .aload_n 0, 1) rfl) rfl ?_
      refine x_iconst (v := 1) ⟨by decide, by decide⟩ (dtk dt_X11_order 6 (11, .iconst 1, 1) rfl) ?_
      refine kc_X11_71 rfl (dtk dt_X11_order 7 (12, .invokevirtual 71, 3) rfl) (c_X11_refuse (G := G)  hL.wf) rfl rfl (wk_0 hL.wf) (fitG (by decide) (by decide) (by decide) (by decide)) (Nat.le_of_ble_eq_true rfl) (pqK ?_)
      refine MW.widen (k1 := 3) (k2 := 25) (by decide) (by decide) ?_
      exact x_iret (dtk dt_X11_order 8 (15, .ireturn, 1) rfl) rfl ⟨fun hc => absurd hc (by omega), fun _ => ⟨rfl, by (rw [if_neg (by omega)]; exact ref_fin hL sx.rf hL.rc)⟩⟩
set_option maxRecDepth 100000 in
set_option maxHeartbeats 4000000 in
theorem c_X11_row {G : GG} {n : Nat} {K : KK} {M : MM} {q : Int} (hL : LK K M) (hn : 55 ≤ n ∧ n < 50000) : MC G mi_X11_row 5 3 25 [(1, 0), (0, q)] n K M (makQ n K M ((0 ≤ q ∧ q ≤ 10) ∧ M 36 0 < 8) (if 0 ≤ q ∧ q ≤ 10 then 2 else 1) 5 q (fun x y => decide (x < y))) := by
  refine MC.intro (lc := [(0, (1, 0)), (1, (0, q))]) (by decide) rfl (by simp [Nat.ble]) (Nat.le_of_ble_eq_true rfl) rfl (fun hMR => ?_)
  have hc8 := hL.c8
  refine MW.factK (fun hf => ?_)
  refine x_iload_n (dtk dt_X11_row 0 (0, .iload_n 1, 1) rfl) rfl ?_
  refine x_if_lt (tgt := 10) (dtk dt_X11_row 1 (1, .ifCond .lt 9, 3) rfl) (by decide) (fun c1 => ?_) (fun c1 => ?_)
  · skip
    refine x_aload_n (dtk dt_X11_row 5 (10, .aload_n 0, 1) rfl) rfl ?_
    refine x_iconst (v := 1) ⟨by decide, by decide⟩ (dtk dt_X11_row 6 (11, .iconst 1, 1) rfl) ?_
    refine kc_X11_71 rfl (dtk dt_X11_row 7 (12, .invokevirtual 71, 3) rfl) (c_X11_refuse (G := G)  hL.wf) rfl rfl (wk_0 hL.wf) (fitG (by decide) (by decide) (by decide) (by decide)) (Nat.le_of_ble_eq_true rfl) (pqK ?_)
    refine MW.widen (k1 := 3) (k2 := 25) (by decide) (by decide) ?_
    exact x_iret (dtk dt_X11_row 8 (15, .ireturn, 1) rfl) rfl ⟨fun hc => absurd hc (by omega), fun _ => ⟨rfl, by (rw [if_neg (by omega)]; exact ref_fin hL sx.rf hL.rc)⟩⟩
  · skip
    refine x_iload_n (dtk dt_X11_row 2 (4, .iload_n 1, 1) rfl) rfl ?_
    refine x_bipush (v := 10) ⟨by decide, by decide⟩ (dtk dt_X11_row 3 (5, .bipush 10, 2) rfl) ?_
    refine x_icmp_le (tgt := 16) (dtk dt_X11_row 4 (7, .if_icmp .le 9, 3) rfl) (by decide) (fun c7 => ?_) (fun c7 => ?_)
    · skip
      refine x_aload_n (dtk dt_X11_row 9 (16, .aload_n 0, 1) rfl) rfl ?_
      refine x_iload_n (dtk dt_X11_row 10 (17, .iload_n 1, 1) rfl) rfl ?_
      refine kc_X11_75 rfl (dtk dt_X11_row 11 (18, .invokevirtual 75, 3) rfl) (c_X11_hasRoom (G := G)  hL.wf) rfl rfl (wk_0 hL.wf) (fitG (by decide) (by decide) (by decide) (by decide)) (Nat.le_of_ble_eq_true rfl) (pqK ?_)
      refine x_if_neB (tgt := 30) (dtk dt_X11_row 12 (21, .ifCond .ne 9, 3) rfl) (by decide) (fun c21 => ?_) (fun c21 => ?_)
      · skip
        have h8 : M 36 0 < 8 := by (have hz := hL.cnt; simp at c21; omega)
        refine x_new (ci := 5) (dtk dt_X11_row 17 (30, .new 150, 3) rfl) cl_5 cd_5 w561 w562 w98 (by omega) ⟨by decide, by decide⟩ ?_
        have hw1 : WF (upK K ((n : Nat) : Int) (0, 5)) (zM M ((n : Nat) : Int) (fT 5)) := wf_new hL.wf (by omega)
        refine x_dup rfl (dtk dt_X11_row 18 (33, .dup, 1) rfl) ?_
        refine x_aload_n (dtk dt_X11_row 19 (34, .aload_n 0, 1) rfl) rfl ?_
        refine fg_X11_15 rfl (dtk dt_X11_row 20 (35, .getfield 15, 3) rfl) (wk_0 hw1) (v := M 36 0) (by rw [zM_ne _ (by omega)]; exact hL.cnt) ?_
        refine x_iload_n (dtk dt_X11_row 21 (38, .iload_n 1, 1) rfl) rfl ?_
        refine kc_X11_152 rfl (dtk dt_X11_row 22 (39, .invokespecial 152, 3) rfl) (c_X5_init (G := G) (p := ((n : Nat) : Int)) (ci := 5) hw1 (upK_self _ _ _) (by unfold isO; decide) (by omega) (by omega) (by omega) (by omega)) rfl rfl (by omega) (fitG (by decide) (by decide) (by decide) (by decide)) (Nat.le_of_ble_eq_true rfl) (fun rr39 n39 K39 M39 hq39 => ?_)
        obtain ⟨rfl, hn39, hK39, hO39, hl39⟩ := hq39
        replace hK39 := upK3 hK39
        replace hl39 : ∀ x : Int, x < n → M39 x = M x := fun x hx => (hl39 x hx).trans (zM_ne _ (by omega))
        have hw39 := hO39.wf
        refine x_astore_n (dtk dt_X11_row 23 (42, .astore_n 2, 1) rfl) (by decide) ?_
        refine x_iconst (v := 0) ⟨by decide, by decide⟩ (dtk dt_X11_row 24 (43, .iconst 0, 1) rfl) ?_
        refine x_istore_n (dtk dt_X11_row 25 (44, .istore_n 3, 1) rfl) (by decide) ?_
        have L45 : ∀ (fu : Nat) (v3 : Int) (M1 : MM) (D1 : Int → Int), (OB K39 M1 ((n : Nat) : Int) 5 (M 36 0) q D1) → (0 ≤ v3 ∧ v3 ≤ q) → (∀ x : Int, x < n → M1 x = M x) → (∀ x y, 0 ≤ x → x < q → 0 ≤ y → y < q → rel D1 x y = (decide (x < v3) && decide (x < y))) → (∀ y, q ≤ y → y < 10 → D1 y = 0) → (q - v3).toNat = fu → MW G mi_X11_row (rmd 5 3 25) (MZ G (makQ n K M ((0 ≤ q ∧ q ≤ 10) ∧ M 36 0 < 8) (if 0 ≤ q ∧ q ≤ 10 then 2 else 1) 5 q (fun x y => decide (x < y))) 3 25) (3, 25) 45 [(0, (1, 0)), (1, (0, q)), (2, (1, ((n : Nat) : Int))), (3, (0, v3))] [] n39 K39 (M1) := by
          intro fu
          induction fu using Nat.strongRecOn with
          | ind fu ih45 =>
            intro v3 M1 D1 hO1 h1 hl1 hD1 hk1 hk45
            refine x_iload_n (dtk dt_X11_row 26 (45, .iload_n 3, 1) rfl) rfl ?_
            refine x_iload_n (dtk dt_X11_row 27 (46, .iload_n 1, 1) rfl) rfl ?_
            refine x_icmp_ge (tgt := 80) (dtk dt_X11_row 28 (47, .if_icmp .ge 33, 3) rfl) (by decide) (fun c47 => ?_) (fun c47 => ?_)
            · skip
              refine x_aload_n (dtk dt_X11_row 44 (80, .aload_n 0, 1) rfl) rfl ?_
              refine x_aload_n (dtk dt_X11_row 45 (81, .aload_n 2, 1) rfl) rfl ?_
              refine kc_X11_82 rfl (dtk dt_X11_row 46 (82, .invokevirtual 82, 3) rfl) (c_X11_take (G := G) (p := ((n : Nat) : Int)) hO1.wf hO1.k hO1.c (by rw [hl1 0 (by omega), hL.cnt]; omega)) rfl rfl (wk_0 hw39) (fitG (by decide) (by decide) (by decide) (by decide)) (Nat.le_of_ble_eq_true rfl) (pqK ?_)
              exact x_iret (dtk dt_X11_row 47 (85, .ireturn, 1) rfl) rfl (by have hz := made_fin hL sx.rf hL.rc hf (by omega) (show n39 = n + 3 by omega) hK39 hO1 hl1; exact ⟨fun _ => ⟨by rw [hz.1], _, hz.2, fun x y x0 x1 y0 y1 => by rw [hD1 x y x0 x1 y0 y1, decide_eq_true (show x < v3 by omega), Bool.true_and], hk1⟩, fun hc => absurd ⟨by omega, h8⟩ hc⟩)
            · skip
              refine x_iload_n (dtk dt_X11_row 29 (50, .iload_n 3, 1) rfl) rfl ?_
              refine x_iconst (v := 1) ⟨by decide, by decide⟩ (dtk dt_X11_row 30 (51, .iconst 1, 1) rfl) ?_
              refine y_iadd (dtk dt_X11_row 31 (52, .iadd, 1) rfl) ⟨by omega, by omega⟩ ?_
              refine x_istore (dtk dt_X11_row 32 (53, .istore 4, 2) rfl) (by decide) ?_
              have L55 : ∀ (fu : Nat) (v4 : Int) (M2 : MM) (D2 : Int → Int), (OB K39 M2 ((n : Nat) : Int) 5 (M 36 0) q D2) → (v3 < v4 ∧ v4 ≤ q) → (∀ x : Int, x < n → M2 x = M x) → (∀ x y, 0 ≤ x → x < q → 0 ≤ y → y < q → rel D2 x y = ((decide (x < v3) && decide (x < y)) || (decide (x = v3) && decide (y < v4) && decide (x < y)))) → (∀ y, q ≤ y → y < 10 → D2 y = 0) → (q - v4).toNat = fu → MW G mi_X11_row (rmd 5 3 25) (MZ G (makQ n K M ((0 ≤ q ∧ q ≤ 10) ∧ M 36 0 < 8) (if 0 ≤ q ∧ q ≤ 10 then 2 else 1) 5 q (fun x y => decide (x < y))) 3 25) (3, 25) 55 [(0, (1, 0)), (1, (0, q)), (2, (1, ((n : Nat) : Int))), (3, (0, v3)), (4, (0, v4))] [] n39 K39 (M2) := by
                intro fu
                induction fu using Nat.strongRecOn with
                | ind fu ih55 =>
                  intro v4 M2 D2 hO2 h3 hl2 hD2 hk2 hk55
                  refine x_iload (dtk dt_X11_row 33 (55, .iload 4, 2) rfl) rfl ?_
                  refine x_iload_n (dtk dt_X11_row 34 (57, .iload_n 1, 1) rfl) rfl ?_
                  refine x_icmp_ge (tgt := 74) (dtk dt_X11_row 35 (58, .if_icmp .ge 16, 3) rfl) (by decide) (fun c58 => ?_) (fun c58 => ?_)
                  · skip
                    refine y_iinc (dtk dt_X11_row 42 (74, .iinc 3 1, 3) rfl) rfl (by decide) ⟨by omega, by omega⟩ ?_
                    refine x_goto (tgt := 45) (dtk dt_X11_row 43 (77, .goto (-32), 3) rfl) (by decide) ?_
                    refine MW.sub [1, 2, 3, 0] rfl ?_
                    exact ih45 _ (by omega) _ _ _ hO2 (by omega) hl2 (fun x y x0 x1 y0 y1 => by rw [hD2 x y x0 x1 y0 y1]; by_cases hx : x = v3; (rw [decide_eq_true hx, decide_eq_true (show y < v4 by omega), decide_eq_false (show ¬ x < v3 by omega), decide_eq_true (show x < v3 + 1 by omega)]; simp); (rw [decide_eq_false hx, show decide (x < v3 + 1) = decide (x < v3) from by (rw [decide_eq_decide]; omega)]; simp)) hk2 rfl
                  · skip
                    refine x_aload_n (dtk dt_X11_row 36 (61, .aload_n 2, 1) rfl) rfl ?_
                    refine x_iload_n (dtk dt_X11_row 37 (62, .iload_n 3, 1) rfl) rfl ?_
                    refine x_iload (dtk dt_X11_row 38 (63, .iload 4, 2) rfl) rfl ?_
                    refine kc_X11_127 rfl (dtk dt_X11_row 39 (65, .invokevirtual 127, 3) rfl) (c_X4_mark (G := G) (p := ((n : Nat) : Int)) hO2 (by omega) (by omega)) rfl rfl hO2.k hO2.c (fitG (by decide) (by decide) (by decide) (by decide)) (Nat.le_of_ble_eq_true rfl) (uqK (fun M65_1 hs65_1 hE65_1 => ?_))
                    have hE := hE65_1
                    have hsM := hs65_1
                    refine y_iinc (dtk dt_X11_row 40 (68, .iinc 4 1, 3) rfl) rfl (by decide) ⟨by omega, by omega⟩ ?_
                    refine x_goto (tgt := 55) (dtk dt_X11_row 41 (71, .goto (-16), 3) rfl) (by decide) ?_
                    refine MW.sub [1, 2, 3, 4, 0] rfl ?_
                    exact ih55 _ (by omega) _ _ _ hE (by omega) (fun x hx => (hsM x (Or.inl hx)).trans (hl2 x hx)) (fun x y x0 x1 y0 y1 => by rw [rel_mrk hO2.ok ⟨by omega, by omega⟩ ⟨by omega, by omega⟩ x0, hD2 x y x0 x1 y0 y1, Bool.or_assoc]; congr 1; by_cases hq : x = v3 ∧ y = v4; (focus (rw [hq.1, hq.2, decide_eq_true (show v4 < v4 + 1 by omega), decide_eq_true (show v3 < v4 by omega)]; simp)); (rw [show (decide (x = v3) && decide (y = v4)) = false from by (rw [Bool.eq_false_iff, ne_eq, Bool.and_eq_true, decide_eq_true_eq, decide_eq_true_eq]; exact hq), Bool.or_false]; by_cases hx : x = v3; (focus (rw [show decide (y < v4 + 1) = decide (y < v4) from by rw [decide_eq_decide]; omega])); (rw [decide_eq_false hx]; rfl))) (fun y y0 y1 => by rw [mrk_o (by omega)]; exact hk2 y y0 y1) rfl
              refine MW.sub [1, 2, 3, 4, 0] rfl ?_
              exact L55 _ _ _ _ hO1 (by omega) hl1 (fun x y x0 x1 y0 y1 => by rw [hD1 x y x0 x1 y0 y1]; by_cases hx : x = v3; (focus (rw [decide_eq_true hx, Bool.true_and, show (decide (y < v3 + 1) && decide (x < y)) = false from by (simp; omega)]; simp)); (rw [decide_eq_false hx]; simp)) hk1 rfl
        refine MW.sub [2, 3, 1, 0] rfl ?_
        exact L45 _ _ _ _ hO39 (by omega) hl39 (fun x y x0 x1 y0 y1 => by rw [rel_0, decide_eq_false (show ¬ x < 0 by omega)]; rfl) (fun _ _ _ => rfl) rfl
      · skip
        have h8 : ¬ M 36 0 < 8 := by (have hz := hL.cnt; simp at c21; omega)
        refine x_aload_n (dtk dt_X11_row 13 (24, .aload_n 0, 1) rfl) rfl ?_
        refine x_iconst (v := 2) ⟨by decide, by decide⟩ (dtk dt_X11_row 14 (25, .iconst 2, 1) rfl) ?_
        refine kc_X11_71 rfl (dtk dt_X11_row 15 (26, .invokevirtual 71, 3) rfl) (c_X11_refuse (G := G)  hL.wf) rfl rfl (wk_0 hL.wf) (fitG (by decide) (by decide) (by decide) (by decide)) (Nat.le_of_ble_eq_true rfl) (pqK ?_)
        refine MW.widen (k1 := 3) (k2 := 25) (by decide) (by decide) ?_
        exact x_iret (dtk dt_X11_row 16 (29, .ireturn, 1) rfl) rfl ⟨fun hc => absurd hc (by omega), fun _ => ⟨rfl, by (rw [if_pos (by omega)]; exact ref_fin hL sx.rf hL.rc)⟩⟩
    · skip
      refine x_aload_n (dtk dt_X11_row 5 (10, .aload_n 0, 1) rfl) rfl ?_
      refine x_iconst (v := 1) ⟨by decide, by decide⟩ (dtk dt_X11_row 6 (11, .iconst 1, 1) rfl) ?_
      refine kc_X11_71 rfl (dtk dt_X11_row 7 (12, .invokevirtual 71, 3) rfl) (c_X11_refuse (G := G)  hL.wf) rfl rfl (wk_0 hL.wf) (fitG (by decide) (by decide) (by decide) (by decide)) (Nat.le_of_ble_eq_true rfl) (pqK ?_)
      refine MW.widen (k1 := 3) (k2 := 25) (by decide) (by decide) ?_
      exact x_iret (dtk dt_X11_row 8 (15, .ireturn, 1) rfl) rfl ⟨fun hc => absurd hc (by omega), fun _ => ⟨rfl, by (rw [if_neg (by omega)]; exact ref_fin hL sx.rf hL.rc)⟩⟩
