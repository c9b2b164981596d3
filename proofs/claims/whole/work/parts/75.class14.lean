/-! ===== the class: making orders of others ===== -/
set_option maxRecDepth 100000 in
set_option maxHeartbeats 4000000 in
theorem c_X11_dual {G : GG} {n : Nat} {K : KK} {M : MM} {o : Int} (hL : LK K M) (hn : 55 ≤ n ∧ n < 50000) : MC G mi_X11_dual 5 3 25 [(1, 0), (0, o)] n K M (makQ n K M ((isOr M o = true) ∧ M 36 0 < 8) (if isOr M o = true then 2 else 1) 4 (M 38 o) (dbX (M 38 o) (M 38 o) (fun a b => rel (dM M o) a b) (fun _ b => b) (fun a _ => a))) := by
  refine MC.intro (lc := [(0, (1, 0)), (1, (0, o))]) (by decide) rfl (by simp [Nat.ble]) (Nat.le_of_ble_eq_true rfl) rfl (fun hMR => ?_)
  have hc8 := hL.c8
  refine MW.factK (fun hf => ?_)
  refine x_aload_n (dtk dt_X11_dual 0 (0, .aload_n 0, 1) rfl) rfl ?_
  refine x_iload_n (dtk dt_X11_dual 1 (1, .iload_n 1, 1) rfl) rfl ?_
  by_cases hsp2_0 : 0 ≤ o ∧ o < M 36 0
  · skip
    refine kc_X11_86 rfl (dtk dt_X11_dual 2 (2, .invokevirtual 86, 3) rfl) (c_X11_find (G := G)  hL.wf (by rw [hL.cnt]; exact hsp2_0) (by rw [hL.cnt]; exact hL.c8.2)) rfl rfl (wk_0 hL.wf) (fitG (by decide) (by decide) (by decide) (by decide)) (Nat.le_of_ble_eq_true rfl) (pqK ?_)
    have hO := hL.ob hsp2_0
    have hOg := hO.ge
    have hOs := hO.sz
    have hOP := hL.po hsp2_0
    have hOi := isOr_y hsp2_0
    have hlt := hO.lt hf
    refine x_astore_n (dtk dt_X11_dual 3 (5, .astore_n 2, 1) rfl) (by decide) ?_
    refine x_aload_n (dtk dt_X11_dual 4 (6, .aload_n 2, 1) rfl) rfl ?_
    refine x_ifnonnull (tgt := 16) (dtk dt_X11_dual 5 (7, .ifnonnull 9, 3) rfl) (by decide) (fun c7 => ?_) (fun c7 => ?_)
    rotate_left
    · exact absurd c7 (by omega)
    refine x_aload_n (dtk dt_X11_dual 10 (16, .aload_n 0, 1) rfl) rfl ?_
    refine x_aload_n (dtk dt_X11_dual 11 (17, .aload_n 2, 1) rfl) rfl ?_
    refine fg_X11_117 rfl (dtk dt_X11_dual 12 (18, .getfield 117, 3) rfl) hO.k hO.c hO.n ?_
    refine kc_X11_75 rfl (dtk dt_X11_dual 13 (21, .invokevirtual 75, 3) rfl) (c_X11_hasRoom (G := G)  hL.wf) rfl rfl (wk_0 hO.wf) (fitG (by decide) (by decide) (by decide) (by decide)) (Nat.le_of_ble_eq_true rfl) (pqK ?_)
    refine x_if_neB (tgt := 33) (dtk dt_X11_dual 14 (24, .ifCond .ne 9, 3) rfl) (by decide) (fun c24 => ?_) (fun c24 => ?_)
    · skip
      have hcc : (isOr M o = true) ∧ M 36 0 < 8 := ⟨hOi, by (have hz := hL.cnt; simp at c24; omega)⟩
      refine x_new (ci := 4) (dtk dt_X11_dual 19 (33, .new 9, 3) rfl) cl_4 cd_4 w109 w268 w93 (by omega) ⟨by decide, by decide⟩ ?_
      have hw1 : WF (upK K ((n : Nat) : Int) (0, 4)) (zM M ((n : Nat) : Int) (fT 4)) := wf_new hL.wf (by omega)
      refine x_dup rfl (dtk dt_X11_dual 20 (36, .dup, 1) rfl) ?_
      refine x_aload_n (dtk dt_X11_dual 21 (37, .aload_n 0, 1) rfl) rfl ?_
      refine fg_X11_15 rfl (dtk dt_X11_dual 22 (38, .getfield 15, 3) rfl) (wk_0 hw1) (v := M 36 0) (by rw [zM_ne _ (by omega)]; exact hL.cnt) ?_
      refine x_aload_n (dtk dt_X11_dual 23 (41, .aload_n 2, 1) rfl) rfl ?_
      refine fg_X11_117 rfl (dtk dt_X11_dual 24 (42, .getfield 117, 3) rfl) (by rw [upK_ne _ _ (by omega)]; exact hO.k) hO.c (v := M 38 o) (by rw [zM_ne _ (by omega)]; exact hO.n) ?_
      refine kc_X11_79 rfl (dtk dt_X11_dual 25 (45, .invokespecial 79, 3) rfl) (c_X4_init (G := G) (p := ((n : Nat) : Int)) (ci := 4) hw1 (upK_self _ _ _) (by unfold isO; decide) (by omega) (by omega) hOs (by omega)) rfl rfl (by omega) (fitG (by decide) (by decide) (by decide) (by decide)) (Nat.le_of_ble_eq_true rfl) (fun rr45 n45 K45 M45 hq45 => ?_)
      obtain ⟨rfl, hn45, hK45, hO45, hl45⟩ := hq45
      replace hK45 := upK3 hK45
      replace hl45 : ∀ x : Int, x < n → M45 x = M x := fun x hx => (hl45 x hx).trans (zM_ne _ (by omega))
      have hw45 := hO45.wf
      refine x_astore_n (dtk dt_X11_dual 26 (48, .astore_n 3, 1) rfl) (by decide) ?_
      refine x_iconst (v := 0) ⟨by decide, by decide⟩ (dtk dt_X11_dual 27 (49, .iconst 0, 1) rfl) ?_
      refine x_istore (dtk dt_X11_dual 28 (50, .istore 4, 2) rfl) (by decide) ?_
      have L52 : ∀ (fu : Nat) (v4 : Int) (M1 : MM) (D1 : Int → Int), (OB K45 M1 ((n : Nat) : Int) 4 (M 36 0) (M 38 o) D1) → (0 ≤ v4 ∧ v4 ≤ (M 38 o)) → (∀ x : Int, x < n → M1 x = M x) → (∀ x y, 0 ≤ x → x < M 38 o → 0 ≤ y → y < M 38 o → rel D1 x y = ((false) || dbX v4 (M 38 o) (fun a b => rel (dM M o) a b) (fun _ b => b) (fun a _ => a) x y)) → (∀ y, (M 38 o) ≤ y → y < 10 → D1 y = 0) → ((M 38 o) - v4).toNat = fu → MW G mi_X11_dual (rmd 5 3 25) (MZ G (makQ n K M ((isOr M o = true) ∧ M 36 0 < 8) (if isOr M o = true then 2 else 1) 4 (M 38 o) (dbX (M 38 o) (M 38 o) (fun a b => rel (dM M o) a b) (fun _ b => b) (fun a _ => a))) 3 25) (3, 25) 52 [(0, (1, 0)), (1, (0, o)), (2, (1, M 1 o)), (3, (1, ((n : Nat) : Int))), (4, (0, v4))] [] n45 K45 (M1) := by
        intro fu
        induction fu using Nat.strongRecOn with
        | ind fu ih52 =>
          intro v4 M1 D1 hO1 h1 hl1 hD1 hk1 hk52
          refine x_iload (dtk dt_X11_dual 29 (52, .iload 4, 2) rfl) rfl ?_
          refine x_aload_n (dtk dt_X11_dual 30 (54, .aload_n 2, 1) rfl) rfl ?_
          refine fg_X11_117 rfl (dtk dt_X11_dual 31 (55, .getfield 117, 3) rfl) (hO.old (hO.lt hf) hO1.wf hK45 (fun x _ h2 => hl1 x h2)).k (hO.old (hO.lt hf) hO1.wf hK45 (fun x _ h2 => hl1 x h2)).c (hO.old (hO.lt hf) hO1.wf hK45 (fun x _ h2 => hl1 x h2)).n ?_
          refine x_icmp_ge (tgt := 104) (dtk dt_X11_dual 32 (58, .if_icmp .ge 46, 3) rfl) (by decide) (fun c58 => ?_) (fun c58 => ?_)
          · skip
            refine x_aload_n (dtk dt_X11_dual 52 (104, .aload_n 0, 1) rfl) rfl ?_
            refine x_aload_n (dtk dt_X11_dual 53 (105, .aload_n 3, 1) rfl) rfl ?_
            refine kc_X11_82 rfl (dtk dt_X11_dual 54 (106, .invokevirtual 82, 3) rfl) (c_X11_take (G := G) (p := ((n : Nat) : Int)) hO1.wf hO1.k hO1.c (by rw [hl1 0 (by omega), hL.cnt]; omega)) rfl rfl (wk_0 hw45) (fitG (by decide) (by decide) (by decide) (by decide)) (Nat.le_of_ble_eq_true rfl) (pqK ?_)
            exact x_iret (dtk dt_X11_dual 55 (109, .ireturn, 1) rfl) rfl (by have hz := made_fin hL sx.rf hL.rc hf (by omega) (show n45 = n + 3 by omega) hK45 hO1 hl1; exact ⟨fun _ => ⟨by rw [hz.1], _, hz.2, fun x y x0 x1 y0 y1 => by rw [hD1 x y x0 x1 y0 y1, show v4 = M 38 o by omega, Bool.false_or], hk1⟩, fun hc => absurd hcc hc⟩)
          · skip
            refine x_iconst (v := 0) ⟨by decide, by decide⟩ (dtk dt_X11_dual 33 (61, .iconst 0, 1) rfl) ?_
            refine x_istore (dtk dt_X11_dual 34 (62, .istore 5, 2) rfl) (by decide) ?_
            have L64 : ∀ (fu : Nat) (v5 : Int) (M2 : MM) (D2 : Int → Int), (OB K45 M2 ((n : Nat) : Int) 4 (M 36 0) (M 38 o) D2) → (0 ≤ v5 ∧ v5 ≤ (M 38 o)) → (∀ x : Int, x < n → M2 x = M x) → (∀ x y, 0 ≤ x → x < M 38 o → 0 ≤ y → y < M 38 o → rel D2 x y = (((false) || dbX v4 (M 38 o) (fun a b => rel (dM M o) a b) (fun _ b => b) (fun a _ => a) x y) || dbR v5 v4 (fun a b => rel (dM M o) a b) (fun _ b => b) (fun a _ => a) x y)) → (∀ y, (M 38 o) ≤ y → y < 10 → D2 y = 0) → ((M 38 o) - v5).toNat = fu → MW G mi_X11_dual (rmd 5 3 25) (MZ G (makQ n K M ((isOr M o = true) ∧ M 36 0 < 8) (if isOr M o = true then 2 else 1) 4 (M 38 o) (dbX (M 38 o) (M 38 o) (fun a b => rel (dM M o) a b) (fun _ b => b) (fun a _ => a))) 3 25) (3, 25) 64 [(0, (1, 0)), (1, (0, o)), (2, (1, M 1 o)), (3, (1, ((n : Nat) : Int))), (4, (0, v4)), (5, (0, v5))] [] n45 K45 (M2) := by
              intro fu
              induction fu using Nat.strongRecOn with
              | ind fu ih64 =>
                intro v5 M2 D2 hO2 h3 hl2 hD2 hk2 hk64
                refine x_iload (dtk dt_X11_dual 35 (64, .iload 5, 2) rfl) rfl ?_
                refine x_aload_n (dtk dt_X11_dual 36 (66, .aload_n 2, 1) rfl) rfl ?_
                refine fg_X11_117 rfl (dtk dt_X11_dual 37 (67, .getfield 117, 3) rfl) (hO.old (hO.lt hf) hO2.wf hK45 (fun x _ h2 => hl2 x h2)).k (hO.old (hO.lt hf) hO2.wf hK45 (fun x _ h2 => hl2 x h2)).c (hO.old (hO.lt hf) hO2.wf hK45 (fun x _ h2 => hl2 x h2)).n ?_
                refine x_icmp_ge (tgt := 98) (dtk dt_X11_dual 38 (70, .if_icmp .ge 28, 3) rfl) (by decide) (fun c70 => ?_) (fun c70 => ?_)
                · skip
                  refine y_iinc (dtk dt_X11_dual 50 (98, .iinc 4 1, 3) rfl) rfl (by decide) ⟨by omega, by omega⟩ ?_
                  refine x_goto (tgt := 52) (dtk dt_X11_dual 51 (101, .goto (-49), 3) rfl) (by decide) ?_
                  refine MW.sub [1, 2, 3, 4, 0] rfl ?_
                  exact ih52 _ (by omega) _ _ _ hO2 (by omega) hl2 (fun x y x0 x1 y0 y1 => db_row (q2 := (M 38 o)) (P := (fun a b => rel (dM M o) a b)) (g := (fun _ b => b)) (k := (fun a _ => a)) (A := (fun x y => false)) h1.1 (by rw [show v5 = (M 38 o) by omega] at hD2; exact hD2 x y x0 x1 y0 y1)) hk2 rfl
                · skip
                  refine x_aload_n (dtk dt_X11_dual 39 (73, .aload_n 2, 1) rfl) rfl ?_
                  refine x_iload (dtk dt_X11_dual 40 (74, .iload 4, 2) rfl) rfl ?_
                  refine x_iload (dtk dt_X11_dual 41 (76, .iload 5, 2) rfl) rfl ?_
                  refine kc_X11_98 rfl (dtk dt_X11_dual 42 (78, .invokevirtual 98, 3) rfl) (c_X4_isBelow (G := G)  (hO.old (hO.lt hf) hO2.wf hK45 (fun x _ h2 => hl2 x h2)) (by omega) (by omega)) rfl rfl (hO.old (hO.lt hf) hO2.wf hK45 (fun x _ h2 => hl2 x h2)).k (hO.old (hO.lt hf) hO2.wf hK45 (fun x _ h2 => hl2 x h2)).c (fitG (by decide) (by decide) (by decide) (by decide)) (Nat.le_of_ble_eq_true rfl) (pqK ?_)
                  refine x_if_eqB (tgt := 92) (dtk dt_X11_dual 43 (81, .ifCond .eq 11, 3) rfl) (by decide) (fun c81 => ?_) (fun c81 => ?_)
                  · skip
                    have hPf : (fun a b => rel (dM M o) a b) v4 v5 = false := c81
                    refine y_iinc (dtk dt_X11_dual 48 (92, .iinc 5 1, 3) rfl) rfl (by decide) ⟨by omega, by omega⟩ ?_
                    refine x_goto (tgt := 64) (dtk dt_X11_dual 49 (95, .goto (-31), 3) rfl) (by decide) ?_
                    refine MW.sub [1, 2, 3, 4, 5, 0] rfl ?_
                    exact ih64 _ (by omega) _ _ _ (by first | exact hE | exact hO2) (by omega) (by first | exact hl2 | exact (fun x hx => (hsM x (Or.inl hx)).trans (hl2 x hx))) (fun x y x0 x1 y0 y1 => by first | exact db_no (P := (fun a b => rel (dM M o) a b)) (g := (fun _ b => b)) (k := (fun a _ => a)) (A := (fun x y => (false) || dbX v4 (M 38 o) (fun a b => rel (dM M o) a b) (fun _ b => b) (fun a _ => a) x y)) (by omega) hPf (hD2 x y x0 x1 y0 y1) | exact db_mk (P := (fun a b => rel (dM M o) a b)) (g := (fun _ b => b)) (k := (fun a _ => a)) (A := (fun x y => (false) || dbX v4 (M 38 o) (fun a b => rel (dM M o) a b) (fun _ b => b) (fun a _ => a) x y)) hO2.ok (by omega) hPt (by first | omega | (dsimp only; omega)) (by first | omega | (dsimp only; omega)) x0 (hD2 x y x0 x1 y0 y1)) (fun y y0 y1 => by first | exact hk2 y y0 y1 | (rw [mrk_o (by omega)]; exact hk2 y y0 y1)) rfl
                  · skip
                    have hPt : (fun a b => rel (dM M o) a b) v4 v5 = true := c81
                    refine x_aload_n (dtk dt_X11_dual 44 (84, .aload_n 3, 1) rfl) rfl ?_
                    refine x_iload (dtk dt_X11_dual 45 (85, .iload 5, 2) rfl) rfl ?_
                    refine x_iload (dtk dt_X11_dual 46 (87, .iload 4, 2) rfl) rfl ?_
                    refine kc_X11_127 rfl (dtk dt_X11_dual 47 (89, .invokevirtual 127, 3) rfl) (c_X4_mark (G := G) (p := ((n : Nat) : Int)) hO2 (by omega) (by omega)) rfl rfl hO2.k hO2.c (fitG (by decide) (by decide) (by decide) (by decide)) (Nat.le_of_ble_eq_true rfl) (uqK (fun M89_1 hs89_1 hE89_1 => ?_))
                    have hE := hE89_1
                    have hsM := hs89_1
                    refine y_iinc (dtk dt_X11_dual 48 (92, .iinc 5 1, 3) rfl) rfl (by decide) ⟨by omega, by omega⟩ ?_
                    refine x_goto (tgt := 64) (dtk dt_X11_dual 49 (95, .goto (-31), 3) rfl) (by decide) ?_
                    refine MW.sub [1, 2, 3, 4, 5, 0] rfl ?_
                    exact ih64 _ (by omega) _ _ _ (by first | exact hE | exact hO2) (by omega) (by first | exact hl2 | exact (fun x hx => (hsM x (Or.inl hx)).trans (hl2 x hx))) (fun x y x0 x1 y0 y1 => by first | exact db_no (P := (fun a b => rel (dM M o) a b)) (g := (fun _ b => b)) (k := (fun a _ => a)) (A := (fun x y => (false) || dbX v4 (M 38 o) (fun a b => rel (dM M o) a b) (fun _ b => b) (fun a _ => a) x y)) (by omega) hPf (hD2 x y x0 x1 y0 y1) | exact db_mk (P := (fun a b => rel (dM M o) a b)) (g := (fun _ b => b)) (k := (fun a _ => a)) (A := (fun x y => (false) || dbX v4 (M 38 o) (fun a b => rel (dM M o) a b) (fun _ b => b) (fun a _ => a) x y)) hO2.ok (by omega) hPt (by first | omega | (dsimp only; omega)) (by first | omega | (dsimp only; omega)) x0 (hD2 x y x0 x1 y0 y1)) (fun y y0 y1 => by first | exact hk2 y y0 y1 | (rw [mrk_o (by omega)]; exact hk2 y y0 y1)) rfl
            refine MW.sub [1, 2, 3, 4, 5, 0] rfl ?_
            exact L64 _ _ _ _ hO1 (by omega) hl1 (fun x y x0 x1 y0 y1 => by rw [hD1 x y x0 x1 y0 y1]; rw [dbR_0, Bool.or_false]) hk1 rfl
      refine MW.sub [3, 4, 2, 1, 0] rfl ?_
      exact L52 _ _ _ _ hO45 (by omega) hl45 (fun x y x0 x1 y0 y1 => by rw [rel_0]; rfl) (fun _ _ _ => rfl) rfl
    · skip
      have hcc : ¬ ((isOr M o = true) ∧ M 36 0 < 8) := by (have hz := hL.cnt; simp at c24; omega)
      refine x_aload_n (dtk dt_X11_dual 15 (27, .aload_n 0, 1) rfl) rfl ?_
      refine x_iconst (v := 2) ⟨by decide, by decide⟩ (dtk dt_X11_dual 16 (28, .iconst 2, 1) rfl) ?_
      refine kc_X11_71 rfl (dtk dt_X11_dual 17 (29, .invokevirtual 71, 3) rfl) (c_X11_refuse (G := G)  hL.wf) rfl rfl (wk_0 hO.wf) (fitG (by decide) (by decide) (by decide) (by decide)) (Nat.le_of_ble_eq_true rfl) (pqK ?_)
      refine MW.widen (k1 := 3) (k2 := 25) (by decide) (by decide) ?_
      exact x_iret (dtk dt_X11_dual 18 (32, .ireturn, 1) rfl) rfl ⟨fun hc => absurd hc hcc, fun _ => ⟨rfl, by (rw [if_pos hOi]; exact ref_fin hL sx.rf hL.rc)⟩⟩
  refine kc_X11_86 rfl (dtk dt_X11_dual 2 (2, .invokevirtual 86, 3) rfl) (c_X11_find_no (G := G)  hL.wf (by rw [hL.cnt]; exact hsp2_0)) rfl rfl (wk_0 hL.wf) (fitG (by decide) (by decide) (by decide) (by decide)) (Nat.le_of_ble_eq_true rfl) (pqK ?_)
  have hOn := isOr_n hsp2_0
  refine x_astore_n (dtk dt_X11_dual 3 (5, .astore_n 2, 1) rfl) (by decide) ?_
  refine x_aload_n (dtk dt_X11_dual 4 (6, .aload_n 2, 1) rfl) rfl ?_
  refine x_ifnonnull (tgt := 16) (dtk dt_X11_dual 5 (7, .ifnonnull 9, 3) rfl) (by decide) (fun c7 => ?_) (fun c7 => ?_)
  · exact absurd c7 (by decide)
  refine x_aload_n (dtk dt_X11_dual 6 (10, .aload_n 0, 1) rfl) rfl ?_
  refine x_iconst (v := 1) ⟨by decide, by decide⟩ (dtk dt_X11_dual 7 (11, .iconst 1, 1) rfl) ?_
  refine kc_X11_71 rfl (dtk dt_X11_dual 8 (12, .invokevirtual 71, 3) rfl) (c_X11_refuse (G := G)  hL.wf) rfl rfl (wk_0 hL.wf) (fitG (by decide) (by decide) (by decide) (by decide)) (Nat.le_of_ble_eq_true rfl) (pqK ?_)
  refine MW.widen (k1 := 3) (k2 := 25) (by decide) (by decide) ?_
  exact x_iret (dtk dt_X11_dual 9 (15, .ireturn, 1) rfl) rfl ⟨fun hc => absurd hc (by rw [hOn]; simp), fun _ => ⟨rfl, by (rw [if_neg (by rw [hOn]; decide)]; exact ref_fin hL sx.rf hL.rc)⟩⟩
