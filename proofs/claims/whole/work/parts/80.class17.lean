/-! ===== the class: held, part ===== -/
set_option maxRecDepth 100000 in
set_option maxHeartbeats 4000000 in
theorem c_X11_held {G : GG} {n : Nat} {K : KK} {M : MM} {o : Int} (hL : LK K M) (hn : 55 ≤ n ∧ n < 50000) : MC G mi_X11_held 5 3 25 [(1, 0), (0, o)] n K M (makQ n K M ((isOr M o = true) ∧ M 36 0 < 8 ∧ lowNC (M 38 o) (dM M o) ≤ 10) (if isOr M o = true then 2 else 1) 2 (lowNC (M 38 o) (dM M o)) (dbX (lowNC (M 38 o) (dM M o)) (lowNC (M 38 o) (dM M o)) (fun a b => decide (a ≠ b) && sub (nth (p2 (M 38 o)) (wyP (M 38 o) (dM M o)) 0 a) (nth (p2 (M 38 o)) (wyP (M 38 o) (dM M o)) 0 b)) (fun a _ => a) (fun _ b => b))) := by
  refine MC.intro (lc := [(0, (1, 0)), (1, (0, o))]) (by decide) rfl (by simp [Nat.ble]) (Nat.le_of_ble_eq_true rfl) rfl (fun hMR => ?_)
  have hc8 := hL.c8
  refine MW.factK (fun hf => ?_)
  refine x_aload_n (dtk dt_X11_held 0 (0, .aload_n 0, 1) rfl) rfl ?_
  refine x_iload_n (dtk dt_X11_held 1 (1, .iload_n 1, 1) rfl) rfl ?_
  by_cases hsp2_0 : 0 ≤ o ∧ o < M 36 0
  · skip
    refine kc_X11_86 rfl (dtk dt_X11_held 2 (2, .invokevirtual 86, 3) rfl) (c_X11_find (G := G)  hL.wf (by rw [hL.cnt]; exact hsp2_0) (by rw [hL.cnt]; exact hL.c8.2)) rfl rfl (wk_0 hL.wf) (fitG (by decide) (by decide) (by decide) (by decide)) (Nat.le_of_ble_eq_true rfl) (pqK ?_)
    have hO := hL.ob hsp2_0
    have hOg := hO.ge
    have hOs := hO.sz
    have hOP := hL.po hsp2_0
    have hOi := isOr_y hsp2_0
    have hlt := hO.lt hf
    refine x_astore_n (dtk dt_X11_held 3 (5, .astore_n 2, 1) rfl) (by decide) ?_
    refine x_aload_n (dtk dt_X11_held 4 (6, .aload_n 2, 1) rfl) rfl ?_
    refine x_ifnonnull (tgt := 16) (dtk dt_X11_held 5 (7, .ifnonnull 9, 3) rfl) (by decide) (fun c7 => ?_) (fun c7 => ?_)
    rotate_left
    · exact absurd c7 (by omega)
    refine x_aload_n (dtk dt_X11_held 10 (16, .aload_n 0, 1) rfl) rfl ?_
    refine fg_X11_46 rfl (dtk dt_X11_held 11 (17, .getfield 46, 3) rfl) (wk_0 hO.wf) (wm_0_7 hO.wf) ?_
    refine x_aload_n (dtk dt_X11_held 12 (20, .aload_n 2, 1) rfl) rfl ?_
    refine kc_X11_140 rfl (dtk dt_X11_held 13 (21, .invokevirtual 140, 3) rfl) (c_X6_lowSetCount (G := G)  hO hL.rc) rfl rfl (wk_9 hO.wf) (fitG (by decide) (by decide) (by decide) (by decide)) (Nat.le_of_ble_eq_true rfl) (uqK (fun M21_1 hs21_1 hE21_1 => ?_))
    have hE := hE21_1
    have hlb : 0 ≤ lowNC (M 38 o) (dM M o) := (sumZ_b01 (by have := p2_b hOs; omega) _).1
    refine x_istore_n (dtk dt_X11_held 14 (24, .istore_n 3, 1) rfl) (by decide) ?_
    refine x_aload_n (dtk dt_X11_held 15 (25, .aload_n 0, 1) rfl) rfl ?_
    refine x_iload_n (dtk dt_X11_held 16 (26, .iload_n 3, 1) rfl) rfl ?_
    refine kc_X11_75 rfl (dtk dt_X11_held 17 (27, .invokevirtual 75, 3) rfl) (c_X11_hasRoom (G := G)  (hL.wf.off_sx hs21_1)) rfl rfl (wk_0 hO.wf) (fitG (by decide) (by decide) (by decide) (by decide)) (Nat.le_of_ble_eq_true rfl) (pqK ?_)
    refine x_if_neB (tgt := 39) (dtk dt_X11_held 18 (30, .ifCond .ne 9, 3) rfl) (by decide) (fun c30 => ?_) (fun c30 => ?_)
    · skip
      have hcc : (isOr M o = true) ∧ M 36 0 < 8 ∧ lowNC (M 38 o) (dM M o) ≤ 10 := ⟨hOi, by (have hz := hL.cnt; rw [hs21_1.1 0 (by omega)] at c30; simp at c30; omega)⟩
      refine x_aload_n (dtk dt_X11_held 23 (39, .aload_n 0, 1) rfl) rfl ?_
      refine fg_X11_46 rfl (dtk dt_X11_held 24 (40, .getfield 46, 3) rfl) (wk_0 hO.wf) (wm_0_7 (hO.off_sx hs21_1).wf) ?_
      refine x_aload_n (dtk dt_X11_held 25 (43, .aload_n 2, 1) rfl) rfl ?_
      refine x_aload_n (dtk dt_X11_held 26 (44, .aload_n 0, 1) rfl) rfl ?_
      refine fg_X11_64 rfl (dtk dt_X11_held 27 (45, .getfield 64, 3) rfl) (wk_0 hO.wf) (wm_0_10 (hO.off_sx hs21_1).wf) ?_
      refine kc_X11_143 rfl (dtk dt_X11_held 28 (48, .invokevirtual 143, 3) rfl) (c_X6_listLowSets (G := G)  (hO.off_sx hs21_1) hE hcc.2.2) rfl rfl (wk_9 hO.wf) (fitG (by decide) (by decide) (by decide) (by decide)) (Nat.le_of_ble_eq_true rfl) (uqK (fun M48_2 hs48_2 hE48_2 => ?_))
      have hE2 := hE48_2
      have hsx : sx M M48_2 := hs21_1.tr hs48_2
      refine x_new (ci := 2) (dtk dt_X11_held 29 (51, .new 147, 3) rfl) cl_2 cd_2 w545 w546 w97 (by omega) ⟨by decide, by decide⟩ ?_
      have hw1 : WF (upK K ((n : Nat) : Int) (0, 2)) (zM M48_2 ((n : Nat) : Int) (fT 2)) := wf_new (hL.wf.off_sx hsx) (by omega)
      refine x_dup rfl (dtk dt_X11_held 30 (54, .dup, 1) rfl) ?_
      refine x_aload_n (dtk dt_X11_held 31 (55, .aload_n 0, 1) rfl) rfl ?_
      refine fg_X11_15 rfl (dtk dt_X11_held 32 (56, .getfield 15, 3) rfl) (wk_0 hw1) (v := M 36 0) (by rw [zM_ne _ (by omega), hsx.1 0 (by omega)]; exact hL.cnt) ?_
      refine x_iload_n (dtk dt_X11_held 33 (59, .iload_n 3, 1) rfl) rfl ?_
      refine kc_X11_149 rfl (dtk dt_X11_held 34 (60, .invokespecial 149, 3) rfl) (c_X2_init (G := G) (p := ((n : Nat) : Int)) (ci := 2) hw1 (upK_self _ _ _) (by unfold isO; decide) (by omega) (by omega) ⟨by omega, hcc.2.2⟩ (by omega)) rfl rfl (by omega) (fitG (by decide) (by decide) (by decide) (by decide)) (Nat.le_of_ble_eq_true rfl) (fun rr60 n60 K60 M60 hq60 => ?_)
      obtain ⟨rfl, hn60, hK60, hO60, hl60⟩ := hq60
      replace hK60 := upK3 hK60
      replace hl60 : ∀ x : Int, x < n → M60 x = M48_2 x := fun x hx => (hl60 x hx).trans (zM_ne _ (by omega))
      have hw60 := hO60.wf
      refine x_astore (dtk dt_X11_held 35 (63, .astore 4, 2) rfl) (by decide) ?_
      refine x_iconst (v := 0) ⟨by decide, by decide⟩ (dtk dt_X11_held 36 (65, .iconst 0, 1) rfl) ?_
      refine x_istore (dtk dt_X11_held 37 (66, .istore 5, 2) rfl) (by decide) ?_
      have L68 : ∀ (fu : Nat) (v5 : Int) (M1 : MM) (D1 : Int → Int), (OB K60 M1 ((n : Nat) : Int) 2 (M 36 0) (lowNC (M 38 o) (dM M o)) D1) → (0 ≤ v5 ∧ v5 ≤ (lowNC (M 38 o) (dM M o))) → (∀ x : Int, x < n → M1 x = M48_2 x) → (∀ x y, 0 ≤ x → x < lowNC (M 38 o) (dM M o) → 0 ≤ y → y < lowNC (M 38 o) (dM M o) → rel D1 x y = ((false) || dbX v5 (lowNC (M 38 o) (dM M o)) (fun a b => decide (a ≠ b) && sub (nth (p2 (M 38 o)) (wyP (M 38 o) (dM M o)) 0 a) (nth (p2 (M 38 o)) (wyP (M 38 o) (dM M o)) 0 b)) (fun a _ => a) (fun _ b => b) x y)) → (∀ y, (lowNC (M 38 o) (dM M o)) ≤ y → y < 10 → D1 y = 0) → ((lowNC (M 38 o) (dM M o)) - v5).toNat = fu → MW G mi_X11_held (rmd 5 3 25) (MZ G (makQ n K M ((isOr M o = true) ∧ M 36 0 < 8 ∧ lowNC (M 38 o) (dM M o) ≤ 10) (if isOr M o = true then 2 else 1) 2 (lowNC (M 38 o) (dM M o)) (dbX (lowNC (M 38 o) (dM M o)) (lowNC (M 38 o) (dM M o)) (fun a b => decide (a ≠ b) && sub (nth (p2 (M 38 o)) (wyP (M 38 o) (dM M o)) 0 a) (nth (p2 (M 38 o)) (wyP (M 38 o) (dM M o)) 0 b)) (fun a _ => a) (fun _ b => b))) 3 25) (3, 25) 68 [(0, (1, 0)), (1, (0, o)), (2, (1, M 1 o)), (3, (0, lowNC (M 38 o) (dM M o))), (4, (1, ((n : Nat) : Int))), (5, (0, v5))] [] n60 K60 (M1) := by
        intro fu
        induction fu using Nat.strongRecOn with
        | ind fu ih68 =>
          intro v5 M1 D1 hO1 h1 hl1 hD1 hk1 hk68
          refine x_iload (dtk dt_X11_held 38 (68, .iload 5, 2) rfl) rfl ?_
          refine x_iload_n (dtk dt_X11_held 39 (70, .iload_n 3, 1) rfl) rfl ?_
          refine x_icmp_ge (tgt := 135) (dtk dt_X11_held 40 (71, .if_icmp .ge 64, 3) rfl) (by decide) (fun c71 => ?_) (fun c71 => ?_)
          · skip
            refine x_aload_n (dtk dt_X11_held 69 (135, .aload_n 0, 1) rfl) rfl ?_
            refine x_aload (dtk dt_X11_held 70 (136, .aload 4, 2) rfl) rfl ?_
            refine kc_X11_82 rfl (dtk dt_X11_held 71 (138, .invokevirtual 82, 3) rfl) (c_X11_take (G := G) (p := ((n : Nat) : Int)) hO1.wf hO1.k hO1.c (by rw [hl1 0 (by omega), hsx.1 0 (by omega), hL.cnt]; omega)) rfl rfl (wk_0 hw60) (fitG (by decide) (by decide) (by decide) (by decide)) (Nat.le_of_ble_eq_true rfl) (pqK ?_)
            exact x_iret (dtk dt_X11_held 72 (141, .ireturn, 1) rfl) rfl (by have hz := made_fin hL hsx hE2.1 hf (by omega) (show n60 = n + 3 by omega) hK60 hO1 hl1; exact ⟨fun _ => ⟨by rw [hz.1], _, hz.2, fun x y x0 x1 y0 y1 => by rw [hD1 x y x0 x1 y0 y1, show v5 = lowNC (M 38 o) (dM M o) by omega, Bool.false_or], hk1⟩, fun hc => absurd hcc hc⟩)
          · skip
            refine x_iconst (v := 0) ⟨by decide, by decide⟩ (dtk dt_X11_held 41 (74, .iconst 0, 1) rfl) ?_
            refine x_istore (dtk dt_X11_held 42 (75, .istore 6, 2) rfl) (by decide) ?_
            have L77 : ∀ (fu : Nat) (v6 : Int) (M2 : MM) (D2 : Int → Int), (OB K60 M2 ((n : Nat) : Int) 2 (M 36 0) (lowNC (M 38 o) (dM M o)) D2) → (0 ≤ v6 ∧ v6 ≤ (lowNC (M 38 o) (dM M o))) → (∀ x : Int, x < n → M2 x = M48_2 x) → (∀ x y, 0 ≤ x → x < lowNC (M 38 o) (dM M o) → 0 ≤ y → y < lowNC (M 38 o) (dM M o) → rel D2 x y = (((false) || dbX v5 (lowNC (M 38 o) (dM M o)) (fun a b => decide (a ≠ b) && sub (nth (p2 (M 38 o)) (wyP (M 38 o) (dM M o)) 0 a) (nth (p2 (M 38 o)) (wyP (M 38 o) (dM M o)) 0 b)) (fun a _ => a) (fun _ b => b) x y) || dbR v6 v5 (fun a b => decide (a ≠ b) && sub (nth (p2 (M 38 o)) (wyP (M 38 o) (dM M o)) 0 a) (nth (p2 (M 38 o)) (wyP (M 38 o) (dM M o)) 0 b)) (fun a _ => a) (fun _ b => b) x y)) → (∀ y, (lowNC (M 38 o) (dM M o)) ≤ y → y < 10 → D2 y = 0) → ((lowNC (M 38 o) (dM M o)) - v6).toNat = fu → MW G mi_X11_held (rmd 5 3 25) (MZ G (makQ n K M ((isOr M o = true) ∧ M 36 0 < 8 ∧ lowNC (M 38 o) (dM M o) ≤ 10) (if isOr M o = true then 2 else 1) 2 (lowNC (M 38 o) (dM M o)) (dbX (lowNC (M 38 o) (dM M o)) (lowNC (M 38 o) (dM M o)) (fun a b => decide (a ≠ b) && sub (nth (p2 (M 38 o)) (wyP (M 38 o) (dM M o)) 0 a) (nth (p2 (M 38 o)) (wyP (M 38 o) (dM M o)) 0 b)) (fun a _ => a) (fun _ b => b))) 3 25) (3, 25) 77 [(0, (1, 0)), (1, (0, o)), (2, (1, M 1 o)), (3, (0, lowNC (M 38 o) (dM M o))), (4, (1, ((n : Nat) : Int))), (5, (0, v5)), (6, (0, v6))] [] n60 K60 (M2) := by
              intro fu
              induction fu using Nat.strongRecOn with
              | ind fu ih77 =>
                intro v6 M2 D2 hO2 h3 hl2 hD2 hk2 hk77
                refine x_iload (dtk dt_X11_held 43 (77, .iload 6, 2) rfl) rfl ?_
                refine x_iload_n (dtk dt_X11_held 44 (79, .iload_n 3, 1) rfl) rfl ?_
                refine x_icmp_ge (tgt := 129) (dtk dt_X11_held 45 (80, .if_icmp .ge 49, 3) rfl) (by decide) (fun c80 => ?_) (fun c80 => ?_)
                · skip
                  refine y_iinc (dtk dt_X11_held 67 (129, .iinc 5 1, 3) rfl) rfl (by decide) ⟨by omega, by omega⟩ ?_
                  refine x_goto (tgt := 68) (dtk dt_X11_held 68 (132, .goto (-64), 3) rfl) (by decide) ?_
                  refine MW.sub [1, 2, 3, 4, 5, 0] rfl ?_
                  exact ih68 _ (by omega) _ _ _ hO2 (by omega) hl2 (fun x y x0 x1 y0 y1 => db_row (q2 := (lowNC (M 38 o) (dM M o))) (P := (fun a b => decide (a ≠ b) && sub (nth (p2 (M 38 o)) (wyP (M 38 o) (dM M o)) 0 a) (nth (p2 (M 38 o)) (wyP (M 38 o) (dM M o)) 0 b))) (g := (fun a _ => a)) (k := (fun _ b => b)) (A := (fun x y => false)) h1.1 (by rw [show v6 = (lowNC (M 38 o) (dM M o)) by omega] at hD2; exact hD2 x y x0 x1 y0 y1)) hk2 rfl
                · skip
                  refine x_iload (dtk dt_X11_held 46 (83, .iload 5, 2) rfl) rfl ?_
                  refine x_iload (dtk dt_X11_held 47 (85, .iload 6, 2) rfl) rfl ?_
                  refine x_icmp_eq (tgt := 123) (dtk dt_X11_held 48 (87, .if_icmp .eq 36, 3) rfl) (by decide) (fun c87 => ?_) (fun c87 => ?_)
                  · skip
                    have hPf : (fun a b => decide (a ≠ b) && sub (nth (p2 (M 38 o)) (wyP (M 38 o) (dM M o)) 0 a) (nth (p2 (M 38 o)) (wyP (M 38 o) (dM M o)) 0 b)) v5 v6 = false := by (show (_ && _) = false; rw [decide_eq_false (show ¬ v5 ≠ v6 by omega)]; rfl)
                    refine y_iinc (dtk dt_X11_held 65 (123, .iinc 6 1, 3) rfl) rfl (by decide) ⟨by omega, by omega⟩ ?_
                    refine x_goto (tgt := 77) (dtk dt_X11_held 66 (126, .goto (-49), 3) rfl) (by decide) ?_
                    refine MW.sub [1, 2, 3, 4, 5, 6, 0] rfl ?_
                    exact ih77 _ (by omega) _ _ _ (by first | exact hE9 | exact hO2) (by omega) (by first | exact hl2 | exact (fun x hx => (hsM x (Or.inl hx)).trans (hl2 x hx))) (fun x y x0 x1 y0 y1 => by first | exact db_no (P := (fun a b => decide (a ≠ b) && sub (nth (p2 (M 38 o)) (wyP (M 38 o) (dM M o)) 0 a) (nth (p2 (M 38 o)) (wyP (M 38 o) (dM M o)) 0 b))) (g := (fun a _ => a)) (k := (fun _ b => b)) (A := (fun x y => (false) || dbX v5 (lowNC (M 38 o) (dM M o)) (fun a b => decide (a ≠ b) && sub (nth (p2 (M 38 o)) (wyP (M 38 o) (dM M o)) 0 a) (nth (p2 (M 38 o)) (wyP (M 38 o) (dM M o)) 0 b)) (fun a _ => a) (fun _ b => b) x y)) (by omega) hPf (hD2 x y x0 x1 y0 y1) | exact db_mk (P := (fun a b => decide (a ≠ b) && sub (nth (p2 (M 38 o)) (wyP (M 38 o) (dM M o)) 0 a) (nth (p2 (M 38 o)) (wyP (M 38 o) (dM M o)) 0 b))) (g := (fun a _ => a)) (k := (fun _ b => b)) (A := (fun x y => (false) || dbX v5 (lowNC (M 38 o) (dM M o)) (fun a b => decide (a ≠ b) && sub (nth (p2 (M 38 o)) (wyP (M 38 o) (dM M o)) 0 a) (nth (p2 (M 38 o)) (wyP (M 38 o) (dM M o)) 0 b)) (fun a _ => a) (fun _ b => b) x y)) hO2.ok (by omega) hPt (by first | omega | (dsimp only; omega)) (by first | omega | (dsimp only; omega)) x0 (hD2 x y x0 x1 y0 y1)) (fun y y0 y1 => by first | exact hk2 y y0 y1 | (rw [mrk_o (by omega)]; exact hk2 y y0 y1)) rfl
                  · skip
                    refine x_aload_n (dtk dt_X11_held 49 (90, .aload_n 0, 1) rfl) rfl ?_
                    refine fg_X11_64 rfl (dtk dt_X11_held 50 (91, .getfield 64, 3) rfl) (wk_0 hw60) (wm_0_10 hO2.wf) ?_
                    refine x_iload (dtk dt_X11_held 51 (94, .iload 5, 2) rfl) rfl ?_
                    refine kc_X11_114 rfl (dtk dt_X11_held 52 (96, .invokevirtual 114, 3) rfl) (c_X3_at (G := G)  (ln_26 hO2.wf (by rw [hl2 26 (by omega), hE2.2.1]; omega))) rfl rfl (wk_26 hw60) (fitG (by decide) (by decide) (by decide) (by decide)) (Nat.le_of_ble_eq_true rfl) (pqK ?_)
                    change MW G _ _ _ _ _ _ ((0, if 0 ≤ v5 ∧ v5 < M2 26 1 then M2 27 v5 else -1) :: _) _ _ _
                    rw [if_pos (show 0 ≤ v5 ∧ v5 < M2 26 1 by (rw [hl2 26 (by omega), hE2.2.1]; omega)), hl2 27 (by omega), hE2.2.2 v5 (by omega) (by omega)]
                    refine x_aload_n (dtk dt_X11_held 53 (99, .aload_n 0, 1) rfl) rfl ?_
                    refine fg_X11_64 rfl (dtk dt_X11_held 54 (100, .getfield 64, 3) rfl) (wk_0 hw60) (wm_0_10 hO2.wf) ?_
                    refine x_iload (dtk dt_X11_held 55 (103, .iload 6, 2) rfl) rfl ?_
                    refine kc_X11_114 rfl (dtk dt_X11_held 56 (105, .invokevirtual 114, 3) rfl) (c_X3_at (G := G)  (ln_26 hO2.wf (by rw [hl2 26 (by omega), hE2.2.1]; omega))) rfl rfl (wk_26 hw60) (fitG (by decide) (by decide) (by decide) (by decide)) (Nat.le_of_ble_eq_true rfl) (pqK ?_)
                    change MW G _ _ _ _ _ _ ((0, if 0 ≤ v6 ∧ v6 < M2 26 1 then M2 27 v6 else -1) :: _) _ _ _
                    rw [if_pos (show 0 ≤ v6 ∧ v6 < M2 26 1 by (rw [hl2 26 (by omega), hE2.2.1]; omega)), hl2 27 (by omega), hE2.2.2 v6 (by omega) (by omega)]
                    refine x_iconst (v := -1) ⟨by decide, by decide⟩ (dtk dt_X11_held 57 (108, .iconst (-1), 1) rfl) ?_
                    refine x_ixor (dtk dt_X11_held 58 (109, .ixor, 1) rfl) ?_
                    refine x_iand (dtk dt_X11_held 59 (110, .iand, 1) rfl) ?_
                    refine x_if_ne (tgt := 123) (dtk dt_X11_held 60 (111, .ifCond .ne 12, 3) rfl) (by decide) (fun c111 => ?_) (fun c111 => ?_)
                    · skip
                      have hPf : (fun a b => decide (a ≠ b) && sub (nth (p2 (M 38 o)) (wyP (M 38 o) (dM M o)) 0 a) (nth (p2 (M 38 o)) (wyP (M 38 o) (dM M o)) 0 b)) v5 v6 = false := by (show (_ && _) = false; unfold sub; rw [decide_eq_false c111, Bool.and_false])
                      refine y_iinc (dtk dt_X11_held 65 (123, .iinc 6 1, 3) rfl) rfl (by decide) ⟨by omega, by omega⟩ ?_
                      refine x_goto (tgt := 77) (dtk dt_X11_held 66 (126, .goto (-49), 3) rfl) (by decide) ?_
                      refine MW.sub [1, 2, 3, 4, 5, 6, 0] rfl ?_
                      exact ih77 _ (by omega) _ _ _ (by first | exact hE9 | exact hO2) (by omega) (by first | exact hl2 | exact (fun x hx => (hsM x (Or.inl hx)).trans (hl2 x hx))) (fun x y x0 x1 y0 y1 => by first | exact db_no (P := (fun a b => decide (a ≠ b) && sub (nth (p2 (M 38 o)) (wyP (M 38 o) (dM M o)) 0 a) (nth (p2 (M 38 o)) (wyP (M 38 o) (dM M o)) 0 b))) (g := (fun a _ => a)) (k := (fun _ b => b)) (A := (fun x y => (false) || dbX v5 (lowNC (M 38 o) (dM M o)) (fun a b => decide (a ≠ b) && sub (nth (p2 (M 38 o)) (wyP (M 38 o) (dM M o)) 0 a) (nth (p2 (M 38 o)) (wyP (M 38 o) (dM M o)) 0 b)) (fun a _ => a) (fun _ b => b) x y)) (by omega) hPf (hD2 x y x0 x1 y0 y1) | exact db_mk (P := (fun a b => decide (a ≠ b) && sub (nth (p2 (M 38 o)) (wyP (M 38 o) (dM M o)) 0 a) (nth (p2 (M 38 o)) (wyP (M 38 o) (dM M o)) 0 b))) (g := (fun a _ => a)) (k := (fun _ b => b)) (A := (fun x y => (false) || dbX v5 (lowNC (M 38 o) (dM M o)) (fun a b => decide (a ≠ b) && sub (nth (p2 (M 38 o)) (wyP (M 38 o) (dM M o)) 0 a) (nth (p2 (M 38 o)) (wyP (M 38 o) (dM M o)) 0 b)) (fun a _ => a) (fun _ b => b) x y)) hO2.ok (by omega) hPt (by first | omega | (dsimp only; omega)) (by first | omega | (dsimp only; omega)) x0 (hD2 x y x0 x1 y0 y1)) (fun y y0 y1 => by first | exact hk2 y y0 y1 | (rw [mrk_o (by omega)]; exact hk2 y y0 y1)) rfl
                    · skip
                      have hPt : (fun a b => decide (a ≠ b) && sub (nth (p2 (M 38 o)) (wyP (M 38 o) (dM M o)) 0 a) (nth (p2 (M 38 o)) (wyP (M 38 o) (dM M o)) 0 b)) v5 v6 = true := by (show (_ && _) = true; unfold sub; rw [decide_eq_true c87, decide_eq_true (Classical.not_not.mp c111)]; rfl)
                      refine x_aload (dtk dt_X11_held 61 (114, .aload 4, 2) rfl) rfl ?_
                      refine x_iload (dtk dt_X11_held 62 (116, .iload 5, 2) rfl) rfl ?_
                      refine x_iload (dtk dt_X11_held 63 (118, .iload 6, 2) rfl) rfl ?_
                      refine kc_X11_127 rfl (dtk dt_X11_held 64 (120, .invokevirtual 127, 3) rfl) (c_X4_mark (G := G) (p := ((n : Nat) : Int)) hO2 (by omega) (by omega)) rfl rfl hO2.k hO2.c (fitG (by decide) (by decide) (by decide) (by decide)) (Nat.le_of_ble_eq_true rfl) (uqK (fun M120_3 hs120_3 hE120_3 => ?_))
                      have hE9 := hE120_3
                      have hsM := hs120_3
                      refine y_iinc (dtk dt_X11_held 65 (123, .iinc 6 1, 3) rfl) rfl (by decide) ⟨by omega, by omega⟩ ?_
                      refine x_goto (tgt := 77) (dtk dt_X11_held 66 (126, .goto (-49), 3) rfl) (by decide) ?_
                      refine MW.sub [1, 2, 3, 4, 5, 6, 0] rfl ?_
                      exact ih77 _ (by omega) _ _ _ (by first | exact hE9 | exact hO2) (by omega) (by first | exact hl2 | exact (fun x hx => (hsM x (Or.inl hx)).trans (hl2 x hx))) (fun x y x0 x1 y0 y1 => by first | exact db_no (P := (fun a b => decide (a ≠ b) && sub (nth (p2 (M 38 o)) (wyP (M 38 o) (dM M o)) 0 a) (nth (p2 (M 38 o)) (wyP (M 38 o) (dM M o)) 0 b))) (g := (fun a _ => a)) (k := (fun _ b => b)) (A := (fun x y => (false) || dbX v5 (lowNC (M 38 o) (dM M o)) (fun a b => decide (a ≠ b) && sub (nth (p2 (M 38 o)) (wyP (M 38 o) (dM M o)) 0 a) (nth (p2 (M 38 o)) (wyP (M 38 o) (dM M o)) 0 b)) (fun a _ => a) (fun _ b => b) x y)) (by omega) hPf (hD2 x y x0 x1 y0 y1) | exact db_mk (P := (fun a b => decide (a ≠ b) && sub (nth (p2 (M 38 o)) (wyP (M 38 o) (dM M o)) 0 a) (nth (p2 (M 38 o)) (wyP (M 38 o) (dM M o)) 0 b))) (g := (fun a _ => a)) (k := (fun _ b => b)) (A := (fun x y => (false) || dbX v5 (lowNC (M 38 o) (dM M o)) (fun a b => decide (a ≠ b) && sub (nth (p2 (M 38 o)) (wyP (M 38 o) (dM M o)) 0 a) (nth (p2 (M 38 o)) (wyP (M 38 o) (dM M o)) 0 b)) (fun a _ => a) (fun _ b => b) x y)) hO2.ok (by omega) hPt (by first | omega | (dsimp only; omega)) (by first | omega | (dsimp only; omega)) x0 (hD2 x y x0 x1 y0 y1)) (fun y y0 y1 => by first | exact hk2 y y0 y1 | (rw [mrk_o (by omega)]; exact hk2 y y0 y1)) rfl
            refine MW.sub [1, 2, 3, 4, 5, 6, 0] rfl ?_
            exact L77 _ _ _ _ hO1 (by omega) hl1 (fun x y x0 x1 y0 y1 => by rw [hD1 x y x0 x1 y0 y1]; rw [dbR_0, Bool.or_false]) hk1 rfl
      refine MW.sub [4, 5, 3, 2, 1, 0] rfl ?_
      exact L68 _ _ _ _ hO60 (by omega) hl60 (fun x y x0 x1 y0 y1 => by rw [rel_0]; rfl) (fun _ _ _ => rfl) rfl
    · skip
      have hcc : ¬ ((isOr M o = true) ∧ M 36 0 < 8 ∧ lowNC (M 38 o) (dM M o) ≤ 10) := by (have hz := hL.cnt; rw [hs21_1.1 0 (by omega)] at c30; simp at c30; omega)
      refine x_aload_n (dtk dt_X11_held 19 (33, .aload_n 0, 1) rfl) rfl ?_
      refine x_iconst (v := 2) ⟨by decide, by decide⟩ (dtk dt_X11_held 20 (34, .iconst 2, 1) rfl) ?_
      refine kc_X11_71 rfl (dtk dt_X11_held 21 (35, .invokevirtual 71, 3) rfl) (c_X11_refuse (G := G)  (hL.wf.off_sx hs21_1)) rfl rfl (wk_0 hO.wf) (fitG (by decide) (by decide) (by decide) (by decide)) (Nat.le_of_ble_eq_true rfl) (pqK ?_)
      refine MW.widen (k1 := 3) (k2 := 25) (by decide) (by decide) ?_
      exact x_iret (dtk dt_X11_held 22 (38, .ireturn, 1) rfl) rfl ⟨fun hc => absurd hc hcc, fun _ => ⟨rfl, by (rw [if_pos hOi]; exact ref_fin hL hs21_1 hE)⟩⟩
  refine kc_X11_86 rfl (dtk dt_X11_held 2 (2, .invokevirtual 86, 3) rfl) (c_X11_find_no (G := G)  hL.wf (by rw [hL.cnt]; exact hsp2_0)) rfl rfl (wk_0 hL.wf) (fitG (by decide) (by decide) (by decide) (by decide)) (Nat.le_of_ble_eq_true rfl) (pqK ?_)
  have hOn := isOr_n hsp2_0
  refine x_astore_n (dtk dt_X11_held 3 (5, .astore_n 2, 1) rfl) (by decide) ?_
  refine x_aload_n (dtk dt_X11_held 4 (6, .aload_n 2, 1) rfl) rfl ?_
  refine x_ifnonnull (tgt := 16) (dtk dt_X11_held 5 (7, .ifnonnull 9, 3) rfl) (by decide) (fun c7 => ?_) (fun c7 => ?_)
  · exact absurd c7 (by decide)
  refine x_aload_n (dtk dt_X11_held 6 (10, .aload_n 0, 1) rfl) rfl ?_
  refine x_iconst (v := 1) ⟨by decide, by decide⟩ (dtk dt_X11_held 7 (11, .iconst 1, 1) rfl) ?_
  refine kc_X11_71 rfl (dtk dt_X11_held 8 (12, .invokevirtual 71, 3) rfl) (c_X11_refuse (G := G)  hL.wf) rfl rfl (wk_0 hL.wf) (fitG (by decide) (by decide) (by decide) (by decide)) (Nat.le_of_ble_eq_true rfl) (pqK ?_)
  refine MW.widen (k1 := 3) (k2 := 25) (by decide) (by decide) ?_
  exact x_iret (dtk dt_X11_held 9 (15, .ireturn, 1) rfl) rfl ⟨fun hc => absurd hc (by rw [hOn]; simp), fun _ => ⟨rfl, by (rw [if_neg (by rw [hOn]; decide)]; exact ref_fin hL sx.rf hL.rc)⟩⟩
set_option maxRecDepth 100000 in
set_option maxHeartbeats 4000000 in
theorem c_X11_listBits {G : GG} {n : Nat} {K : KK} {M : MM} {s : Int} (hw : WF K M) (hs : 0 ≤ s ∧ s < 1024) : MC G mi_X11_listBits 2 0 0 [(0, s), (1, 26)] n K M (UQ sx none n K M (fun M' => M' 26 1 = cnt s ∧ (∀ i, 0 ≤ i → i < cnt s → M' 27 i = pk s i) ∧ kp M M')) := by
  refine MC.intro (lc := [(0, (0, s)), (1, (1, 26))]) (by decide) rfl (by simp [Nat.ble]) (Nat.le_of_ble_eq_true rfl) rfl (fun hMR => ?_)
  refine x_aload_n (dtk dt_X11_listBits 0 (0, .aload_n 1, 1) rfl) rfl ?_
  refine kc_X11_105 rfl (dtk dt_X11_listBits 1 (1, .invokevirtual 105, 3) rfl) (c_X3_empty0 (G := G)  (wk_26 hw)) rfl rfl (wk_26 hw) (fitR (by decide) (by decide)) (Nat.le_of_ble_eq_true rfl) (pqK ?_)
  refine x_iconst (v := 0) ⟨by decide, by decide⟩ (dtk dt_X11_listBits 2 (4, .iconst 0, 1) rfl) ?_
  refine x_istore_n (dtk dt_X11_listBits 3 (5, .istore_n 2, 1) rfl) (by decide) ?_
  have L6 : ∀ (fu : Nat) (v2 : Int) (M1 : MM), (0 ≤ v2 ∧ v2 ≤ 10) → (sx M M1) → (kp M M1) → (M1 26 1 = sumZ v2 (fun a => B (bt s a))) → (∀ i, 0 ≤ i → i < sumZ v2 (fun a => B (bt s a)) → M1 27 i = pk s i) → (10 - v2).toNat = fu → MW G mi_X11_listBits (rmd 2 0 0) (MZ G (UQ sx none n K M (fun M' => M' 26 1 = cnt s ∧ (∀ i, 0 ≤ i → i < cnt s → M' 27 i = pk s i) ∧ kp M M')) 0 0) (0, 0) 6 [(0, (0, s)), (1, (1, 26)), (2, (0, v2))] [] n K (M1) := by
    intro fu
    induction fu using Nat.strongRecOn with
    | ind fu ih6 =>
      intro v2 M1 h1 hs1 hkp h2 h4 hk6
      have hb := sumZ_b01 h1.1 (bt s)
      refine x_iload_n (dtk dt_X11_listBits 4 (6, .iload_n 2, 1) rfl) rfl ?_
      refine x_bipush (v := 10) ⟨by decide, by decide⟩ (dtk dt_X11_listBits 5 (7, .bipush 10, 2) rfl) ?_
      refine x_icmp_ge (tgt := 31) (dtk dt_X11_listBits 6 (9, .if_icmp .ge 22, 3) rfl) (by decide) (fun c9 => ?_) (fun c9 => ?_)
      · skip
        exact ru_v (dtk dt_X11_listBits 18 (31, .return_, 1) rfl) rfl hs1 (by rw [show v2 = 10 by omega] at h2 h4; exact ⟨h2, h4, hkp⟩)
      · skip
        refine x_iload_n (dtk dt_X11_listBits 7 (12, .iload_n 0, 1) rfl) rfl ?_
        refine x_iload_n (dtk dt_X11_listBits 8 (13, .iload_n 2, 1) rfl) rfl ?_
        refine x_ishr (dtk dt_X11_listBits 9 (14, .ishr, 1) rfl) ?_
        refine x_iconst (v := 1) ⟨by decide, by decide⟩ (dtk dt_X11_listBits 10 (15, .iconst 1, 1) rfl) ?_
        refine x_iand (dtk dt_X11_listBits 11 (16, .iand, 1) rfl) ?_
        rw [zbit (nn10 hs) ⟨by omega, by omega⟩]
        change MW G _ _ _ _ _ _ ((0, B (bt (s) (v2))) :: _) _ _ _
        refine x_if_eqB (tgt := 25) (dtk dt_X11_listBits 12 (17, .ifCond .eq 8, 3) rfl) (by decide) (fun c17 => ?_) (fun c17 => ?_)
        · skip
          refine y_iinc (dtk dt_X11_listBits 16 (25, .iinc 2 1, 3) rfl) rfl (by decide) ⟨by omega, by omega⟩ ?_
          refine x_goto (tgt := 6) (dtk dt_X11_listBits 17 (28, .goto (-22), 3) rfl) (by decide) ?_
          refine MW.sub [1, 2, 0] rfl ?_
          exact ih6 _ (by omega) _ _ (by omega) hs1 (by first | exact hkp | exact kp.st 26 rfl (kp.st 27 rfl hkp)) (by rw [sumZ_s h1.1]; first | (rw [st2_self, h2, c17]; rfl) | (rw [h2, c17]; show _ = _ + (0 : Int); omega)) (fun i i0 i1 => by rw [sumZ_s h1.1] at i1; have i2 : i < sumZ v2 (fun a => B (bt s a)) + B (bt s v2) := i1; first | (rw [st2_ne _ (show (27 : Int) ≠ 26 by decide), st2_up]; show (if i = M1 26 1 then _ else _) = _; rw [h2]; by_cases hq : i = sumZ v2 (fun a => B (bt s a)); (focus (rw [if_pos hq, hq]; exact (nth_cnt (P := bt s) ⟨h1.1, by omega⟩ c17).symm)); (rw [if_neg hq]; exact h4 i i0 (by have hB := B_01 (bt s v2); omega))) | exact h4 i i0 (by rw [c17] at i2; have hz : B false = 0 := rfl; omega)) rfl
        · skip
          have hlt : sumZ v2 (fun a => B (bt s a)) + 1 ≤ cnt s := cnt_lt (by omega) c17
          have hcn := cnt_b s
          refine x_aload_n (dtk dt_X11_listBits 13 (20, .aload_n 1, 1) rfl) rfl ?_
          refine x_iload_n (dtk dt_X11_listBits 14 (21, .iload_n 2, 1) rfl) rfl ?_
          refine kc_X11_263 rfl (dtk dt_X11_listBits 15 (22, .invokevirtual 263, 3) rfl) (c_X3_add (G := G)  (ln_26 (hw.off_sx hs1) (by omega))) rfl rfl (wk_26 hw) (fitR (by decide) (by decide)) (Nat.le_of_ble_eq_true rfl) (pqK ?_)
          rw [add_26 (by omega)]
          refine y_iinc (dtk dt_X11_listBits 16 (25, .iinc 2 1, 3) rfl) rfl (by decide) ⟨by omega, by omega⟩ ?_
          refine x_goto (tgt := 6) (dtk dt_X11_listBits 17 (28, .goto (-22), 3) rfl) (by decide) ?_
          refine MW.sub [1, 2, 0] rfl ?_
          exact ih6 _ (by omega) _ _ (by omega) (sx.fd 26 1 rfl (sx.st 27 rfl hs1)) (by first | exact hkp | exact kp.st 26 rfl (kp.st 27 rfl hkp)) (by rw [sumZ_s h1.1]; first | (rw [st2_self, h2, c17]; rfl) | (rw [h2, c17]; show _ = _ + (0 : Int); omega)) (fun i i0 i1 => by rw [sumZ_s h1.1] at i1; have i2 : i < sumZ v2 (fun a => B (bt s a)) + B (bt s v2) := i1; first | (rw [st2_ne _ (show (27 : Int) ≠ 26 by decide), st2_up]; show (if i = M1 26 1 then _ else _) = _; rw [h2]; by_cases hq : i = sumZ v2 (fun a => B (bt s a)); (focus (rw [if_pos hq, hq]; exact (nth_cnt (P := bt s) ⟨h1.1, by omega⟩ c17).symm)); (rw [if_neg hq]; exact h4 i i0 (by have hB := B_01 (bt s v2); omega))) | exact h4 i i0 (by rw [c17] at i2; have hz : B false = 0 := rfl; omega)) rfl
  refine MW.sub [1, 2, 0] rfl ?_
  exact L6 _ _ _ (by omega) (sx.fd 26 1 rfl sx.rf) (kp.st 26 rfl kp.rf) (by rw [st2_self]; rfl) (fun i i0 i1 => by rw [sumZ_0] at i1; omega) rfl
set_option maxRecDepth 100000 in
set_option maxHeartbeats 4000000 in
theorem c_X11_part {G : GG} {n : Nat} {K : KK} {M : MM} {o s : Int} (hL : LK K M) (hn : 55 ≤ n ∧ n < 50000) : MC G mi_X11_part 5 3 25 [(1, 0), (0, o), (0, s)] n K M (makQ n K M ((isOr M o = true ∧ (0 ≤ s ∧ s < p2 (M 38 o))) ∧ M 36 0 < 8) (if isOr M o = true ∧ (0 ≤ s ∧ s < p2 (M 38 o)) then 2 else 1) 4 (cnt s) (dbX (cnt s) (cnt s) (fun a b => rel (dM M o) (pk s a) (pk s b)) (fun a _ => a) (fun _ b => b))) := by
  refine MC.intro (lc := [(0, (1, 0)), (1, (0, o)), (2, (0, s))]) (by decide) rfl (by simp [Nat.ble]) (Nat.le_of_ble_eq_true rfl) rfl (fun hMR => ?_)
  have hc8 := hL.c8
  refine MW.factK (fun hf => ?_)
  refine MW.fact (fun _ hq _ => ?_)
  have hsR : inR s := hq (2, 0, s) (by simp)
  refine x_aload_n (dtk dt_X11_part 0 (0, .aload_n 0, 1) rfl) rfl ?_
  refine x_iload_n (dtk dt_X11_part 1 (1, .iload_n 1, 1) rfl) rfl ?_
  by_cases hsp2_0 : 0 ≤ o ∧ o < M 36 0
  · skip
    refine kc_X11_86 rfl (dtk dt_X11_part 2 (2, .invokevirtual 86, 3) rfl) (c_X11_find (G := G)  hL.wf (by rw [hL.cnt]; exact hsp2_0) (by rw [hL.cnt]; exact hL.c8.2)) rfl rfl (wk_0 hL.wf) (fitG (by decide) (by decide) (by decide) (by decide)) (Nat.le_of_ble_eq_true rfl) (pqK ?_)
    have hO := hL.ob hsp2_0
    have hOg := hO.ge
    have hOs := hO.sz
    have hOP := hL.po hsp2_0
    have hOi := isOr_y hsp2_0
    have hlt := hO.lt hf
    have hal := in_all hOs hsR
    refine x_astore_n (dtk dt_X11_part 3 (5, .astore_n 3, 1) rfl) (by decide) ?_
    refine x_aload_n (dtk dt_X11_part 4 (6, .aload_n 3, 1) rfl) rfl ?_
    refine x_ifnull (tgt := 21) (dtk dt_X11_part 5 (7, .ifnull 14, 3) rfl) (by decide) (fun c7 => ?_) (fun c7 => ?_)
    · exact absurd c7 (by omega)
    refine x_iload_n (dtk dt_X11_part 6 (10, .iload_n 2, 1) rfl) rfl ?_
    refine x_aload_n (dtk dt_X11_part 7 (11, .aload_n 3, 1) rfl) rfl ?_
    refine kc_X11_153 rfl (dtk dt_X11_part 8 (12, .invokevirtual 153, 3) rfl) (c_X4_all (G := G)  hO) rfl rfl hO.k hO.c (fitG (by decide) (by decide) (by decide) (by decide)) (Nat.le_of_ble_eq_true rfl) (pqK ?_)
    refine x_iconst (v := -1) ⟨by decide, by decide⟩ (dtk dt_X11_part 9 (15, .iconst (-1), 1) rfl) ?_
    refine x_ixor (dtk dt_X11_part 10 (16, .ixor, 1) rfl) ?_
    refine x_iand (dtk dt_X11_part 11 (17, .iand, 1) rfl) ?_
    refine x_if_eq (tgt := 27) (dtk dt_X11_part 12 (18, .ifCond .eq 9, 3) rfl) (by decide) (fun c18 => ?_) (fun c18 => ?_)
    · skip
      have hsb := hal.mp c18
      have hp2 := p2_b hOs
      have hs10 : 0 ≤ s ∧ s < 1024 := by omega
      have hcb := cnt_b s
      refine x_iload_n (dtk dt_X11_part 17 (27, .iload_n 2, 1) rfl) rfl ?_
      refine kc_X11_156 rfl (dtk dt_X11_part 18 (28, .invokestatic 156, 3) rfl) (c_J6_bitCount_0f7a4 (G := G)  hs10) rfl rfl (fitG (by decide) (by decide) (by decide) (by decide)) (Nat.le_of_ble_eq_true rfl) (pqK ?_)
      refine x_istore (dtk dt_X11_part 19 (31, .istore 4, 2) rfl) (by decide) ?_
      refine x_aload_n (dtk dt_X11_part 20 (33, .aload_n 0, 1) rfl) rfl ?_
      refine x_iload (dtk dt_X11_part 21 (34, .iload 4, 2) rfl) rfl ?_
      refine kc_X11_75 rfl (dtk dt_X11_part 22 (36, .invokevirtual 75, 3) rfl) (c_X11_hasRoom (G := G)  hL.wf) rfl rfl (wk_0 hO.wf) (fitG (by decide) (by decide) (by decide) (by decide)) (Nat.le_of_ble_eq_true rfl) (pqK ?_)
      refine x_if_neB (tgt := 48) (dtk dt_X11_part 23 (39, .ifCond .ne 9, 3) rfl) (by decide) (fun c39 => ?_) (fun c39 => ?_)
      · skip
        have hcc : (isOr M o = true ∧ (0 ≤ s ∧ s < p2 (M 38 o))) ∧ M 36 0 < 8 := ⟨⟨hOi, hsb⟩, by (have hz := hL.cnt; simp at c39; omega)⟩
        refine x_iload_n (dtk dt_X11_part 28 (48, .iload_n 2, 1) rfl) rfl ?_
        refine x_aload_n (dtk dt_X11_part 29 (49, .aload_n 0, 1) rfl) rfl ?_
        refine fg_X11_64 rfl (dtk dt_X11_part 30 (50, .getfield 64, 3) rfl) (wk_0 hO.wf) (wm_0_10 hO.wf) ?_
        refine kc_X11_161 rfl (dtk dt_X11_part 31 (53, .invokestatic 161, 3) rfl) (c_X11_listBits (G := G)  hL.wf hs10) rfl rfl (fitG (by decide) (by decide) (by decide) (by decide)) (Nat.le_of_ble_eq_true rfl) (uqK (fun M53_1 hs53_1 hE53_1 => ?_))
        have hE2 := hE53_1
        have hsx : sx M M53_1 := hs53_1
        refine x_new (ci := 4) (dtk dt_X11_part 32 (56, .new 9, 3) rfl) cl_4 cd_4 w109 w268 w93 (by omega) ⟨by decide, by decide⟩ ?_
        have hw1 : WF (upK K ((n : Nat) : Int) (0, 4)) (zM M53_1 ((n : Nat) : Int) (fT 4)) := wf_new (hL.wf.off_sx hsx) (by omega)
        refine x_dup rfl (dtk dt_X11_part 33 (59, .dup, 1) rfl) ?_
        refine x_aload_n (dtk dt_X11_part 34 (60, .aload_n 0, 1) rfl) rfl ?_
        refine fg_X11_15 rfl (dtk dt_X11_part 35 (61, .getfield 15, 3) rfl) (wk_0 hw1) (v := M 36 0) (by rw [zM_ne _ (by omega), hsx.1 0 (by omega)]; exact hL.cnt) ?_
        refine x_iload (dtk dt_X11_part 36 (64, .iload 4, 2) rfl) rfl ?_
        refine kc_X11_79 rfl (dtk dt_X11_part 37 (66, .invokespecial 79, 3) rfl) (c_X4_init (G := G) (p := ((n : Nat) : Int)) (ci := 4) hw1 (upK_self _ _ _) (by unfold isO; decide) (by omega) (by omega) hcb (by omega)) rfl rfl (by omega) (fitG (by decide) (by decide) (by decide) (by decide)) (Nat.le_of_ble_eq_true rfl) (fun rr66 n66 K66 M66 hq66 => ?_)
        obtain ⟨rfl, hn66, hK66, hO66, hl66⟩ := hq66
        replace hK66 := upK3 hK66
        replace hl66 : ∀ x : Int, x < n → M66 x = M53_1 x := fun x hx => (hl66 x hx).trans (zM_ne _ (by omega))
        have hw66 := hO66.wf
        refine x_astore (dtk dt_X11_part 38 (69, .astore 5, 2) rfl) (by decide) ?_
        refine x_iconst (v := 0) ⟨by decide, by decide⟩ (dtk dt_X11_part 39 (71, .iconst 0, 1) rfl) ?_
        refine x_istore (dtk dt_X11_part 40 (72, .istore 6, 2) rfl) (by decide) ?_
        have L74 : ∀ (fu : Nat) (v6 : Int) (M1 : MM) (D1 : Int → Int), (OB K66 M1 ((n : Nat) : Int) 4 (M 36 0) (cnt s) D1) → (0 ≤ v6 ∧ v6 ≤ (cnt s)) → (∀ x : Int, x < n → M1 x = M53_1 x) → (∀ x y, 0 ≤ x → x < cnt s → 0 ≤ y → y < cnt s → rel D1 x y = ((false) || dbX v6 (cnt s) (fun a b => rel (dM M o) (pk s a) (pk s b)) (fun a _ => a) (fun _ b => b) x y)) → (∀ y, (cnt s) ≤ y → y < 10 → D1 y = 0) → ((cnt s) - v6).toNat = fu → MW G mi_X11_part (rmd 5 3 25) (MZ G (makQ n K M ((isOr M o = true ∧ (0 ≤ s ∧ s < p2 (M 38 o))) ∧ M 36 0 < 8) (if isOr M o = true ∧ (0 ≤ s ∧ s < p2 (M 38 o)) then 2 else 1) 4 (cnt s) (dbX (cnt s) (cnt s) (fun a b => rel (dM M o) (pk s a) (pk s b)) (fun a _ => a) (fun _ b => b))) 3 25) (3, 25) 74 [(0, (1, 0)), (1, (0, o)), (2, (0, s)), (3, (1, M 1 o)), (4, (0, cnt s)), (5, (1, ((n : Nat) : Int))), (6, (0, v6))] [] n66 K66 (M1) := by
          intro fu
          induction fu using Nat.strongRecOn with
          | ind fu ih74 =>
            intro v6 M1 D1 hO1 h1 hl1 hD1 hk1 hk74
            refine x_iload (dtk dt_X11_part 41 (74, .iload 6, 2) rfl) rfl ?_
            refine x_iload (dtk dt_X11_part 42 (76, .iload 4, 2) rfl) rfl ?_
            refine x_icmp_ge (tgt := 137) (dtk dt_X11_part 43 (78, .if_icmp .ge 59, 3) rfl) (by decide) (fun c78 => ?_) (fun c78 => ?_)
            · skip
              refine x_aload_n (dtk dt_X11_part 68 (137, .aload_n 0, 1) rfl) rfl ?_
              refine x_aload (dtk dt_X11_part 69 (138, .aload 5, 2) rfl) rfl ?_
              refine kc_X11_82 rfl (dtk dt_X11_part 70 (140, .invokevirtual 82, 3) rfl) (c_X11_take (G := G) (p := ((n : Nat) : Int)) hO1.wf hO1.k hO1.c (by rw [hl1 0 (by omega), hsx.1 0 (by omega), hL.cnt]; omega)) rfl rfl (wk_0 hw66) (fitG (by decide) (by decide) (by decide) (by decide)) (Nat.le_of_ble_eq_true rfl) (pqK ?_)
              exact x_iret (dtk dt_X11_part 71 (143, .ireturn, 1) rfl) rfl (by have hz := made_fin hL hsx (hL.rc.kp hsx.hi hE2.2.2) hf (by omega) (show n66 = n + 3 by omega) hK66 hO1 hl1; exact ⟨fun _ => ⟨by rw [hz.1], _, hz.2, fun x y x0 x1 y0 y1 => by rw [hD1 x y x0 x1 y0 y1, show v6 = cnt s by omega, Bool.false_or], hk1⟩, fun hc => absurd hcc hc⟩)
            · skip
              refine x_iconst (v := 0) ⟨by decide, by decide⟩ (dtk dt_X11_part 44 (81, .iconst 0, 1) rfl) ?_
              refine x_istore (dtk dt_X11_part 45 (82, .istore 7, 2) rfl) (by decide) ?_
              have L84 : ∀ (fu : Nat) (v7 : Int) (M2 : MM) (D2 : Int → Int), (OB K66 M2 ((n : Nat) : Int) 4 (M 36 0) (cnt s) D2) → (0 ≤ v7 ∧ v7 ≤ (cnt s)) → (∀ x : Int, x < n → M2 x = M53_1 x) → (∀ x y, 0 ≤ x → x < cnt s → 0 ≤ y → y < cnt s → rel D2 x y = (((false) || dbX v6 (cnt s) (fun a b => rel (dM M o) (pk s a) (pk s b)) (fun a _ => a) (fun _ b => b) x y) || dbR v7 v6 (fun a b => rel (dM M o) (pk s a) (pk s b)) (fun a _ => a) (fun _ b => b) x y)) → (∀ y, (cnt s) ≤ y → y < 10 → D2 y = 0) → ((cnt s) - v7).toNat = fu → MW G mi_X11_part (rmd 5 3 25) (MZ G (makQ n K M ((isOr M o = true ∧ (0 ≤ s ∧ s < p2 (M 38 o))) ∧ M 36 0 < 8) (if isOr M o = true ∧ (0 ≤ s ∧ s < p2 (M 38 o)) then 2 else 1) 4 (cnt s) (dbX (cnt s) (cnt s) (fun a b => rel (dM M o) (pk s a) (pk s b)) (fun a _ => a) (fun _ b => b))) 3 25) (3, 25) 84 [(0, (1, 0)), (1, (0, o)), (2, (0, s)), (3, (1, M 1 o)), (4, (0, cnt s)), (5, (1, ((n : Nat) : Int))), (6, (0, v6)), (7, (0, v7))] [] n66 K66 (M2) := by
                intro fu
                induction fu using Nat.strongRecOn with
                | ind fu ih84 =>
                  intro v7 M2 D2 hO2 h3 hl2 hD2 hk2 hk84
                  refine x_iload (dtk dt_X11_part 46 (84, .iload 7, 2) rfl) rfl ?_
                  refine x_iload (dtk dt_X11_part 47 (86, .iload 4, 2) rfl) rfl ?_
                  refine x_icmp_ge (tgt := 131) (dtk dt_X11_part 48 (88, .if_icmp .ge 43, 3) rfl) (by decide) (fun c88 => ?_) (fun c88 => ?_)
                  · skip
                    refine y_iinc (dtk dt_X11_part 66 (131, .iinc 6 1, 3) rfl) rfl (by decide) ⟨by omega, by omega⟩ ?_
                    refine x_goto (tgt := 74) (dtk dt_X11_part 67 (134, .goto (-60), 3) rfl) (by decide) ?_
                    refine MW.sub [1, 2, 3, 4, 5, 6, 0] rfl ?_
                    exact ih74 _ (by omega) _ _ _ hO2 (by omega) hl2 (fun x y x0 x1 y0 y1 => db_row (q2 := (cnt s)) (P := (fun a b => rel (dM M o) (pk s a) (pk s b))) (g := (fun a _ => a)) (k := (fun _ b => b)) (A := (fun x y => false)) h1.1 (by rw [show v7 = (cnt s) by omega] at hD2; exact hD2 x y x0 x1 y0 y1)) hk2 rfl
                  · skip
                    have kp6 := pkm_lt hOs hsb (i := v6) ⟨by omega, by omega⟩
                    have kp7 := pkm_lt hOs hsb (i := v7) ⟨by omega, by omega⟩
                    refine x_aload_n (dtk dt_X11_part 49 (91, .aload_n 3, 1) rfl) rfl ?_
                    refine x_aload_n (dtk dt_X11_part 50 (92, .aload_n 0, 1) rfl) rfl ?_
                    refine fg_X11_64 rfl (dtk dt_X11_part 51 (93, .getfield 64, 3) rfl) (wk_0 hw66) (wm_0_10 hO2.wf) ?_
                    refine x_iload (dtk dt_X11_part 52 (96, .iload 6, 2) rfl) rfl ?_
                    refine kc_X11_114 rfl (dtk dt_X11_part 53 (98, .invokevirtual 114, 3) rfl) (c_X3_at (G := G)  (ln_26 hO2.wf (by rw [hl2 26 (by omega), hE2.1]; omega))) rfl rfl (wk_26 hw66) (fitG (by decide) (by decide) (by decide) (by decide)) (Nat.le_of_ble_eq_true rfl) (pqK ?_)
                    change MW G _ _ _ _ _ _ ((0, if 0 ≤ v6 ∧ v6 < M2 26 1 then M2 27 v6 else -1) :: _) _ _ _
                    rw [if_pos (show 0 ≤ v6 ∧ v6 < M2 26 1 by (rw [hl2 26 (by omega), hE2.1]; omega)), hl2 27 (by omega), hE2.2.1 v6 (by omega) (by omega)]
                    refine x_aload_n (dtk dt_X11_part 54 (101, .aload_n 0, 1) rfl) rfl ?_
                    refine fg_X11_64 rfl (dtk dt_X11_part 55 (102, .getfield 64, 3) rfl) (wk_0 hw66) (wm_0_10 hO2.wf) ?_
                    refine x_iload (dtk dt_X11_part 56 (105, .iload 7, 2) rfl) rfl ?_
                    refine kc_X11_114 rfl (dtk dt_X11_part 57 (107, .invokevirtual 114, 3) rfl) (c_X3_at (G := G)  (ln_26 hO2.wf (by rw [hl2 26 (by omega), hE2.1]; omega))) rfl rfl (wk_26 hw66) (fitG (by decide) (by decide) (by decide) (by decide)) (Nat.le_of_ble_eq_true rfl) (pqK ?_)
                    change MW G _ _ _ _ _ _ ((0, if 0 ≤ v7 ∧ v7 < M2 26 1 then M2 27 v7 else -1) :: _) _ _ _
                    rw [if_pos (show 0 ≤ v7 ∧ v7 < M2 26 1 by (rw [hl2 26 (by omega), hE2.1]; omega)), hl2 27 (by omega), hE2.2.1 v7 (by omega) (by omega)]
                    refine kc_X11_98 rfl (dtk dt_X11_part 58 (110, .invokevirtual 98, 3) rfl) (c_X4_isBelow (G := G)  ((hO.off_sx hsx).old ((hO.off_sx hsx).lt hf) hO2.wf hK66 (fun x _ h2 => hl2 x h2)) (by omega) (by omega)) rfl rfl ((hO.off_sx hsx).old ((hO.off_sx hsx).lt hf) hO2.wf hK66 (fun x _ h2 => hl2 x h2)).k ((hO.off_sx hsx).old ((hO.off_sx hsx).lt hf) hO2.wf hK66 (fun x _ h2 => hl2 x h2)).c (fitG (by decide) (by decide) (by decide) (by decide)) (Nat.le_of_ble_eq_true rfl) (pqK ?_)
                    refine x_if_eqB (tgt := 125) (dtk dt_X11_part 59 (113, .ifCond .eq 12, 3) rfl) (by decide) (fun c113 => ?_) (fun c113 => ?_)
                    · skip
                      have hPf : (fun a b => rel (dM M o) (pk s a) (pk s b)) v6 v7 = false := c113
                      refine y_iinc (dtk dt_X11_part 64 (125, .iinc 7 1, 3) rfl) rfl (by decide) ⟨by omega, by omega⟩ ?_
                      refine x_goto (tgt := 84) (dtk dt_X11_part 65 (128, .goto (-44), 3) rfl) (by decide) ?_
                      refine MW.sub [1, 2, 3, 4, 5, 6, 7, 0] rfl ?_
                      exact ih84 _ (by omega) _ _ _ (by first | exact hE9 | exact hO2) (by omega) (by first | exact hl2 | exact (fun x hx => (hsM x (Or.inl hx)).trans (hl2 x hx))) (fun x y x0 x1 y0 y1 => by first | exact db_no (P := (fun a b => rel (dM M o) (pk s a) (pk s b))) (g := (fun a _ => a)) (k := (fun _ b => b)) (A := (fun x y => (false) || dbX v6 (cnt s) (fun a b => rel (dM M o) (pk s a) (pk s b)) (fun a _ => a) (fun _ b => b) x y)) (by omega) hPf (hD2 x y x0 x1 y0 y1) | exact db_mk (P := (fun a b => rel (dM M o) (pk s a) (pk s b))) (g := (fun a _ => a)) (k := (fun _ b => b)) (A := (fun x y => (false) || dbX v6 (cnt s) (fun a b => rel (dM M o) (pk s a) (pk s b)) (fun a _ => a) (fun _ b => b) x y)) hO2.ok (by omega) hPt (by first | omega | (dsimp only; omega)) (by first | omega | (dsimp only; omega)) x0 (hD2 x y x0 x1 y0 y1)) (fun y y0 y1 => by first | exact hk2 y y0 y1 | (rw [mrk_o (by omega)]; exact hk2 y y0 y1)) rfl
                    · skip
                      have hPt : (fun a b => rel (dM M o) (pk s a) (pk s b)) v6 v7 = true := c113
                      refine x_aload (dtk dt_X11_part 60 (116, .aload 5, 2) rfl) rfl ?_
                      refine x_iload (dtk dt_X11_part 61 (118, .iload 6, 2) rfl) rfl ?_
                      refine x_iload (dtk dt_X11_part 62 (120, .iload 7, 2) rfl) rfl ?_
                      refine kc_X11_127 rfl (dtk dt_X11_part 63 (122, .invokevirtual 127, 3) rfl) (c_X4_mark (G := G) (p := ((n : Nat) : Int)) hO2 (by omega) (by omega)) rfl rfl hO2.k hO2.c (fitG (by decide) (by decide) (by decide) (by decide)) (Nat.le_of_ble_eq_true rfl) (uqK (fun M122_2 hs122_2 hE122_2 => ?_))
                      have hE9 := hE122_2
                      have hsM := hs122_2
                      refine y_iinc (dtk dt_X11_part 64 (125, .iinc 7 1, 3) rfl) rfl (by decide) ⟨by omega, by omega⟩ ?_
                      refine x_goto (tgt := 84) (dtk dt_X11_part 65 (128, .goto (-44), 3) rfl) (by decide) ?_
                      refine MW.sub [1, 2, 3, 4, 5, 6, 7, 0] rfl ?_
                      exact ih84 _ (by omega) _ _ _ (by first | exact hE9 | exact hO2) (by omega) (by first | exact hl2 | exact (fun x hx => (hsM x (Or.inl hx)).trans (hl2 x hx))) (fun x y x0 x1 y0 y1 => by first | exact db_no (P := (fun a b => rel (dM M o) (pk s a) (pk s b))) (g := (fun a _ => a)) (k := (fun _ b => b)) (A := (fun x y => (false) || dbX v6 (cnt s) (fun a b => rel (dM M o) (pk s a) (pk s b)) (fun a _ => a) (fun _ b => b) x y)) (by omega) hPf (hD2 x y x0 x1 y0 y1) | exact db_mk (P := (fun a b => rel (dM M o) (pk s a) (pk s b))) (g := (fun a _ => a)) (k := (fun _ b => b)) (A := (fun x y => (false) || dbX v6 (cnt s) (fun a b => rel (dM M o) (pk s a) (pk s b)) (fun a _ => a) (fun _ b => b) x y)) hO2.ok (by omega) hPt (by first | omega | (dsimp only; omega)) (by first | omega | (dsimp only; omega)) x0 (hD2 x y x0 x1 y0 y1)) (fun y y0 y1 => by first | exact hk2 y y0 y1 | (rw [mrk_o (by omega)]; exact hk2 y y0 y1)) rfl
              refine MW.sub [1, 2, 3, 4, 5, 6, 7, 0] rfl ?_
              exact L84 _ _ _ _ hO1 (by omega) hl1 (fun x y x0 x1 y0 y1 => by rw [hD1 x y x0 x1 y0 y1]; rw [dbR_0, Bool.or_false]) hk1 rfl
        refine MW.sub [4, 5, 6, 3, 2, 1, 0] rfl ?_
        exact L74 _ _ _ _ hO66 (by omega) hl66 (fun x y x0 x1 y0 y1 => by rw [rel_0]; rfl) (fun _ _ _ => rfl) rfl
      · skip
        have hcc : ¬ ((isOr M o = true ∧ (0 ≤ s ∧ s < p2 (M 38 o))) ∧ M 36 0 < 8) := by (have hz := hL.cnt; simp at c39; omega)
        refine x_aload_n (dtk dt_X11_part 24 (42, .aload_n 0, 1) rfl) rfl ?_
        refine x_iconst (v := 2) ⟨by decide, by decide⟩ (dtk dt_X11_part 25 (43, .iconst 2, 1) rfl) ?_
        refine kc_X11_71 rfl (dtk dt_X11_part 26 (44, .invokevirtual 71, 3) rfl) (c_X11_refuse (G := G)  hL.wf) rfl rfl (wk_0 hO.wf) (fitG (by decide) (by decide) (by decide) (by decide)) (Nat.le_of_ble_eq_true rfl) (pqK ?_)
        refine MW.widen (k1 := 3) (k2 := 25) (by decide) (by decide) ?_
        exact x_iret (dtk dt_X11_part 27 (47, .ireturn, 1) rfl) rfl ⟨fun hc => absurd hc hcc, fun _ => ⟨rfl, by (rw [if_pos ⟨hOi, hsb⟩]; exact ref_fin hL sx.rf hL.rc)⟩⟩
    · skip
      have hsb : ¬ (0 ≤ s ∧ s < p2 (M 38 o)) := fun hz => c18 (hal.mpr hz)
      refine x_aload_n (dtk dt_X11_part 13 (21, .aload_n 0, 1) rfl) rfl ?_
      refine x_iconst (v := 1) ⟨by decide, by decide⟩ (dtk dt_X11_part 14 (22, .iconst 1, 1) rfl) ?_
      refine kc_X11_71 rfl (dtk dt_X11_part 15 (23, .invokevirtual 71, 3) rfl) (c_X11_refuse (G := G)  hL.wf) rfl rfl (wk_0 hO.wf) (fitG (by decide) (by decide) (by decide) (by decide)) (Nat.le_of_ble_eq_true rfl) (pqK ?_)
      refine MW.widen (k1 := 3) (k2 := 25) (by decide) (by decide) ?_
      exact x_iret (dtk dt_X11_part 16 (26, .ireturn, 1) rfl) rfl ⟨fun hc => absurd hc (by first | (rw [hOn]; simp; done) | exact fun hz => hsb hz.1.2), fun _ => ⟨rfl, by (rw [if_neg (by first | (rw [hOn]; simp; done) | exact fun hz => hsb hz.2)]; exact ref_fin hL sx.rf hL.rc)⟩⟩
  refine kc_X11_86 rfl (dtk dt_X11_part 2 (2, .invokevirtual 86, 3) rfl) (c_X11_find_no (G := G)  hL.wf (by rw [hL.cnt]; exact hsp2_0)) rfl rfl (wk_0 hL.wf) (fitG (by decide) (by decide) (by decide) (by decide)) (Nat.le_of_ble_eq_true rfl) (pqK ?_)
  have hOn := isOr_n hsp2_0
  refine x_astore_n (dtk dt_X11_part 3 (5, .astore_n 3, 1) rfl) (by decide) ?_
  refine x_aload_n (dtk dt_X11_part 4 (6, .aload_n 3, 1) rfl) rfl ?_
  refine x_ifnull (tgt := 21) (dtk dt_X11_part 5 (7, .ifnull 14, 3) rfl) (by decide) (fun c7 => ?_) (fun c7 => ?_)
  rotate_left
  · exact absurd c7 (by decide)
  refine x_aload_n (dtk dt_X11_part 13 (21, .aload_n 0, 1) rfl) rfl ?_
  refine x_iconst (v := 1) ⟨by decide, by decide⟩ (dtk dt_X11_part 14 (22, .iconst 1, 1) rfl) ?_
  refine kc_X11_71 rfl (dtk dt_X11_part 15 (23, .invokevirtual 71, 3) rfl) (c_X11_refuse (G := G)  hL.wf) rfl rfl (wk_0 hL.wf) (fitG (by decide) (by decide) (by decide) (by decide)) (Nat.le_of_ble_eq_true rfl) (pqK ?_)
  refine MW.widen (k1 := 3) (k2 := 25) (by decide) (by decide) ?_
  exact x_iret (dtk dt_X11_part 16 (26, .ireturn, 1) rfl) rfl ⟨fun hc => absurd hc (by first | (rw [hOn]; simp; done) | exact fun hz => hsb hz.1.2), fun _ => ⟨rfl, by (rw [if_neg (by first | (rw [hOn]; simp; done) | exact fun hz => hsb hz.2)]; exact ref_fin hL sx.rf hL.rc)⟩⟩
