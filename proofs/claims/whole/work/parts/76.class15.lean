/-! ===== the class: stack, beside ===== -/
set_option maxRecDepth 100000 in
set_option maxHeartbeats 4000000 in
theorem c_X11_stack {G : GG} {n : Nat} {K : KK} {M : MM} {o p : Int} (hL : LK K M) (hn : 55 ≤ n ∧ n < 50000) : MC G mi_X11_stack 6 3 25 [(1, 0), (0, o), (0, p)] n K M (makQ n K M (((isOr M o = true) ∧ (isOr M p = true)) ∧ M 36 0 < 8 ∧ M 38 o + M 38 p ≤ 10) (if (isOr M o = true) ∧ (isOr M p = true) then 2 else 1) 9 (M 38 o + M 38 p) (fun x y => (cpX 0 (M 38 o) (dM M o) x y || cpX (M 38 o) (M 38 p) (dM M p) x y) || dbX (M 38 o) (M 38 o + M 38 p) (fun _ b => decide (M 38 o ≤ b)) (fun a _ => a) (fun _ b => b) x y)) := by
  refine MC.intro (lc := [(0, (1, 0)), (1, (0, o)), (2, (0, p))]) (by decide) rfl (by simp [Nat.ble]) (Nat.le_of_ble_eq_true rfl) rfl (fun hMR => ?_)
  have hc8 := hL.c8
  refine MW.factK (fun hf => ?_)
  refine x_aload_n (dtk dt_X11_stack 0 (0, .aload_n 0, 1) rfl) rfl ?_
  refine x_iload_n (dtk dt_X11_stack 1 (1, .iload_n 1, 1) rfl) rfl ?_
  by_cases hsp2_0 : 0 ≤ o ∧ o < M 36 0
  · skip
    refine kc_X11_86 rfl (dtk dt_X11_stack 2 (2, .invokevirtual 86, 3) rfl) (c_X11_find (G := G)  hL.wf (by rw [hL.cnt]; exact hsp2_0) (by rw [hL.cnt]; exact hL.c8.2)) rfl rfl (wk_0 hL.wf) (fitG (by decide) (by decide) (by decide) (by decide)) (Nat.le_of_ble_eq_true rfl) (pqK ?_)
    have hO := hL.ob hsp2_0
    have hOg := hO.ge
    have hOs := hO.sz
    have hOP := hL.po hsp2_0
    have hOi := isOr_y hsp2_0
    have hOlt := hO.lt hf
    refine x_astore_n (dtk dt_X11_stack 3 (5, .astore_n 3, 1) rfl) (by decide) ?_
    refine x_aload_n (dtk dt_X11_stack 4 (6, .aload_n 0, 1) rfl) rfl ?_
    refine x_iload_n (dtk dt_X11_stack 5 (7, .iload_n 2, 1) rfl) rfl ?_
    by_cases hsp8_0 : 0 ≤ p ∧ p < M 36 0
    · skip
      refine kc_X11_86 rfl (dtk dt_X11_stack 6 (8, .invokevirtual 86, 3) rfl) (c_X11_find (G := G)  hL.wf (by rw [hL.cnt]; exact hsp8_0) (by rw [hL.cnt]; exact hL.c8.2)) rfl rfl (wk_0 hO.wf) (fitG (by decide) (by decide) (by decide) (by decide)) (Nat.le_of_ble_eq_true rfl) (pqK ?_)
      have hQ := hL.ob hsp8_0
      have hQg := hQ.ge
      have hQs := hQ.sz
      have hQP := hL.po hsp8_0
      have hQi := isOr_y hsp8_0
      have hQlt := hQ.lt hf
      refine x_astore (dtk dt_X11_stack 7 (11, .astore 4, 2) rfl) (by decide) ?_
      refine x_aload_n (dtk dt_X11_stack 8 (13, .aload_n 3, 1) rfl) rfl ?_
      refine x_ifnull (tgt := 22) (dtk dt_X11_stack 9 (14, .ifnull 8, 3) rfl) (by decide) (fun c14 => ?_) (fun c14 => ?_)
      · exact absurd c14 (by omega)
      refine x_aload (dtk dt_X11_stack 10 (17, .aload 4, 2) rfl) rfl ?_
      refine x_ifnonnull (tgt := 28) (dtk dt_X11_stack 11 (19, .ifnonnull 9, 3) rfl) (by decide) (fun c19 => ?_) (fun c19 => ?_)
      rotate_left
      · exact absurd c19 (by omega)
      refine x_aload_n (dtk dt_X11_stack 16 (28, .aload_n 0, 1) rfl) rfl ?_
      refine x_aload_n (dtk dt_X11_stack 17 (29, .aload_n 3, 1) rfl) rfl ?_
      refine fg_X11_117 rfl (dtk dt_X11_stack 18 (30, .getfield 117, 3) rfl) hO.k hO.c hO.n ?_
      refine x_aload (dtk dt_X11_stack 19 (33, .aload 4, 2) rfl) rfl ?_
      refine fg_X11_117 rfl (dtk dt_X11_stack 20 (35, .getfield 117, 3) rfl) hQ.k hQ.c hQ.n ?_
      refine y_iadd (dtk dt_X11_stack 21 (38, .iadd, 1) rfl) ⟨by omega, by omega⟩ ?_
      refine kc_X11_75 rfl (dtk dt_X11_stack 22 (39, .invokevirtual 75, 3) rfl) (c_X11_hasRoom (G := G)  hL.wf) rfl rfl (wk_0 hO.wf) (fitG (by decide) (by decide) (by decide) (by decide)) (Nat.le_of_ble_eq_true rfl) (pqK ?_)
      refine x_if_neB (tgt := 51) (dtk dt_X11_stack 23 (42, .ifCond .ne 9, 3) rfl) (by decide) (fun c42 => ?_) (fun c42 => ?_)
      · skip
        have hcc : ((isOr M o = true) ∧ (isOr M p = true)) ∧ M 36 0 < 8 ∧ M 38 o + M 38 p ≤ 10 := ⟨⟨hOi, hQi⟩, by (have hz := hL.cnt; simp at c42; omega)⟩
        refine x_new (ci := 9) (dtk dt_X11_stack 28 (51, .new 120, 3) rfl) cl_9 cd_9 w448 w449 w94 (by omega) ⟨by decide, by decide⟩ ?_
        have hw1 : WF (upK K ((n : Nat) : Int) (0, 9)) (zM M ((n : Nat) : Int) (fT 9)) := wf_new hL.wf (by omega)
        refine x_dup rfl (dtk dt_X11_stack 29 (54, .dup, 1) rfl) ?_
        refine x_aload_n (dtk dt_X11_stack 30 (55, .aload_n 0, 1) rfl) rfl ?_
        refine fg_X11_15 rfl (dtk dt_X11_stack 31 (56, .getfield 15, 3) rfl) (wk_0 hw1) (v := M 36 0) (by rw [zM_ne _ (by omega)]; exact hL.cnt) ?_
        refine x_aload_n (dtk dt_X11_stack 32 (59, .aload_n 3, 1) rfl) rfl ?_
        refine fg_X11_117 rfl (dtk dt_X11_stack 33 (60, .getfield 117, 3) rfl) (by rw [upK_ne _ _ (by omega)]; exact hO.k) hO.c (v := M 38 o) (by rw [zM_ne _ (by omega)]; exact hO.n) ?_
        refine x_aload (dtk dt_X11_stack 34 (63, .aload 4, 2) rfl) rfl ?_
        refine fg_X11_117 rfl (dtk dt_X11_stack 35 (65, .getfield 117, 3) rfl) (by rw [upK_ne _ _ (by omega)]; exact hQ.k) hQ.c (v := M 38 p) (by rw [zM_ne _ (by omega)]; exact hQ.n) ?_
        refine y_iadd (dtk dt_X11_stack 36 (68, .iadd, 1) rfl) ⟨by omega, by omega⟩ ?_
        refine kc_X11_122 rfl (dtk dt_X11_stack 37 (69, .invokespecial 122, 3) rfl) (c_X9_init (G := G) (p := ((n : Nat) : Int)) (ci := 9) hw1 (upK_self _ _ _) (by unfold isO; decide) (by omega) (by omega) (by omega) (by omega)) rfl rfl (by omega) (fitG (by decide) (by decide) (by decide) (by decide)) (Nat.le_of_ble_eq_true rfl) (fun rr69 n69 K69 M69 hq69 => ?_)
        obtain ⟨rfl, hn69, hK69, hO69, hl69⟩ := hq69
        replace hK69 := upK3 hK69
        replace hl69 : ∀ x : Int, x < n → M69 x = M x := fun x hx => (hl69 x hx).trans (zM_ne _ (by omega))
        have hw69 := hO69.wf
        refine x_astore (dtk dt_X11_stack 38 (72, .astore 5, 2) rfl) (by decide) ?_
        refine x_aload (dtk dt_X11_stack 39 (74, .aload 5, 2) rfl) rfl ?_
        refine x_aload_n (dtk dt_X11_stack 40 (76, .aload_n 3, 1) rfl) rfl ?_
        refine x_iconst (v := 0) ⟨by decide, by decide⟩ (dtk dt_X11_stack 41 (77, .iconst 0, 1) rfl) ?_
        refine kc_X11_123 rfl (dtk dt_X11_stack 42 (78, .invokevirtual 123, 3) rfl) (c_X4_copyPairs (G := G) (p := ((n : Nat) : Int)) hO69 (hO.old (hO.lt hf) hO69.wf hK69 (fun x _ h2 => hl69 x h2)) (Or.inl (by omega)) (by omega)) rfl rfl hO69.k hO69.c (fitG (by decide) (by decide) (by decide) (by decide)) (Nat.le_of_ble_eq_true rfl) (uqK (fun M78_1 hs78_1 hE78_1 => ?_))
        obtain ⟨D8, hO8, hD8, hk8⟩ := hE78_1
        have hl8 : ∀ x : Int, x < n → M78_1 x = M x := fun x hx => (hs78_1 x (Or.inl hx)).trans (hl69 x hx)
        refine x_aload (dtk dt_X11_stack 43 (81, .aload 5, 2) rfl) rfl ?_
        refine x_aload (dtk dt_X11_stack 44 (83, .aload 4, 2) rfl) rfl ?_
        refine x_aload_n (dtk dt_X11_stack 45 (85, .aload_n 3, 1) rfl) rfl ?_
        refine fg_X11_117 rfl (dtk dt_X11_stack 46 (86, .getfield 117, 3) rfl) (hO.old (hO.lt hf) hO8.wf hK69 (fun x _ h2 => hl8 x h2)).k (hO.old (hO.lt hf) hO8.wf hK69 (fun x _ h2 => hl8 x h2)).c (hO.old (hO.lt hf) hO8.wf hK69 (fun x _ h2 => hl8 x h2)).n ?_
        refine kc_X11_123 rfl (dtk dt_X11_stack 47 (89, .invokevirtual 123, 3) rfl) (c_X4_copyPairs (G := G) (p := ((n : Nat) : Int)) hO8 (hQ.old (hQ.lt hf) hO8.wf hK69 (fun x _ h2 => hl8 x h2)) (Or.inl (by omega)) (by omega)) rfl rfl hO8.k hO8.c (fitG (by decide) (by decide) (by decide) (by decide)) (Nat.le_of_ble_eq_true rfl) (uqK (fun M89_2 hs89_2 hE89_2 => ?_))
        obtain ⟨D9, hO9, hD9, hk9⟩ := hE89_2
        have hl9 : ∀ x : Int, x < n → M89_2 x = M x := fun x hx => (hs89_2 x (Or.inl hx)).trans (hl8 x hx)
        refine x_iconst (v := 0) ⟨by decide, by decide⟩ (dtk dt_X11_stack 48 (92, .iconst 0, 1) rfl) ?_
        refine x_istore (dtk dt_X11_stack 49 (93, .istore 6, 2) rfl) (by decide) ?_
        have L95 : ∀ (fu : Nat) (v6 : Int) (M1 : MM) (D1 : Int → Int), (OB K69 M1 ((n : Nat) : Int) 9 (M 36 0) (M 38 o + M 38 p) D1) → (0 ≤ v6 ∧ v6 ≤ (M 38 o)) → (∀ x : Int, x < n → M1 x = M x) → (∀ x y, 0 ≤ x → x < M 38 o + M 38 p → 0 ≤ y → y < M 38 o + M 38 p → rel D1 x y = ((cpX 0 (M 38 o) (dM M o) x y || cpX (M 38 o) (M 38 p) (dM M p) x y) || dbX v6 (M 38 o + M 38 p) (fun _ b => decide (M 38 o ≤ b)) (fun a _ => a) (fun _ b => b) x y)) → (∀ y, (M 38 o + M 38 p) ≤ y → y < 10 → D1 y = 0) → ((M 38 o) - v6).toNat = fu → MW G mi_X11_stack (rmd 6 3 25) (MZ G (makQ n K M (((isOr M o = true) ∧ (isOr M p = true)) ∧ M 36 0 < 8 ∧ M 38 o + M 38 p ≤ 10) (if (isOr M o = true) ∧ (isOr M p = true) then 2 else 1) 9 (M 38 o + M 38 p) (fun x y => (cpX 0 (M 38 o) (dM M o) x y || cpX (M 38 o) (M 38 p) (dM M p) x y) || dbX (M 38 o) (M 38 o + M 38 p) (fun _ b => decide (M 38 o ≤ b)) (fun a _ => a) (fun _ b => b) x y)) 3 25) (3, 25) 95 [(0, (1, 0)), (1, (0, o)), (2, (0, p)), (3, (1, M 1 o)), (4, (1, M 1 p)), (5, (1, ((n : Nat) : Int))), (6, (0, v6))] [] n69 K69 (M1) := by
          intro fu
          induction fu using Nat.strongRecOn with
          | ind fu ih95 =>
            intro v6 M1 D1 hO1 h1 hl1 hD1 hk1 hk95
            refine x_iload (dtk dt_X11_stack 50 (95, .iload 6, 2) rfl) rfl ?_
            refine x_aload_n (dtk dt_X11_stack 51 (97, .aload_n 3, 1) rfl) rfl ?_
            refine fg_X11_117 rfl (dtk dt_X11_stack 52 (98, .getfield 117, 3) rfl) (hO.old (hO.lt hf) hO1.wf hK69 (fun x _ h2 => hl1 x h2)).k (hO.old (hO.lt hf) hO1.wf hK69 (fun x _ h2 => hl1 x h2)).c (hO.old (hO.lt hf) hO1.wf hK69 (fun x _ h2 => hl1 x h2)).n ?_
            refine x_icmp_ge (tgt := 141) (dtk dt_X11_stack 53 (101, .if_icmp .ge 40, 3) rfl) (by decide) (fun c101 => ?_) (fun c101 => ?_)
            · skip
              refine x_aload_n (dtk dt_X11_stack 69 (141, .aload_n 0, 1) rfl) rfl ?_
              refine x_aload (dtk dt_X11_stack 70 (142, .aload 5, 2) rfl) rfl ?_
              refine kc_X11_82 rfl (dtk dt_X11_stack 71 (144, .invokevirtual 82, 3) rfl) (c_X11_take (G := G) (p := ((n : Nat) : Int)) hO1.wf hO1.k hO1.c (by rw [hl1 0 (by omega), hL.cnt]; omega)) rfl rfl (wk_0 hw69) (fitG (by decide) (by decide) (by decide) (by decide)) (Nat.le_of_ble_eq_true rfl) (pqK ?_)
              exact x_iret (dtk dt_X11_stack 72 (147, .ireturn, 1) rfl) rfl (by have hz := made_fin hL sx.rf hL.rc hf (by omega) (show n69 = n + 3 by omega) hK69 hO1 hl1; exact ⟨fun _ => ⟨by rw [hz.1], _, hz.2, fun x y x0 x1 y0 y1 => by rw [hD1 x y x0 x1 y0 y1, show v6 = M 38 o by omega], hk1⟩, fun hc => absurd hcc hc⟩)
            · skip
              refine x_aload_n (dtk dt_X11_stack 54 (104, .aload_n 3, 1) rfl) rfl ?_
              refine fg_X11_117 rfl (dtk dt_X11_stack 55 (105, .getfield 117, 3) rfl) (hO.old (hO.lt hf) hO1.wf hK69 (fun x _ h2 => hl1 x h2)).k (hO.old (hO.lt hf) hO1.wf hK69 (fun x _ h2 => hl1 x h2)).c (hO.old (hO.lt hf) hO1.wf hK69 (fun x _ h2 => hl1 x h2)).n ?_
              refine x_istore (dtk dt_X11_stack 56 (108, .istore 7, 2) rfl) (by decide) ?_
              have L110 : ∀ (fu : Nat) (v7 : Int) (M2 : MM) (D2 : Int → Int), (OB K69 M2 ((n : Nat) : Int) 9 (M 36 0) (M 38 o + M 38 p) D2) → (M 38 o ≤ v7 ∧ v7 ≤ (M 38 o + M 38 p)) → (∀ x : Int, x < n → M2 x = M x) → (∀ x y, 0 ≤ x → x < M 38 o + M 38 p → 0 ≤ y → y < M 38 o + M 38 p → rel D2 x y = (((cpX 0 (M 38 o) (dM M o) x y || cpX (M 38 o) (M 38 p) (dM M p) x y) || dbX v6 (M 38 o + M 38 p) (fun _ b => decide (M 38 o ≤ b)) (fun a _ => a) (fun _ b => b) x y) || dbR v7 v6 (fun _ b => decide (M 38 o ≤ b)) (fun a _ => a) (fun _ b => b) x y)) → (∀ y, (M 38 o + M 38 p) ≤ y → y < 10 → D2 y = 0) → ((M 38 o + M 38 p) - v7).toNat = fu → MW G mi_X11_stack (rmd 6 3 25) (MZ G (makQ n K M (((isOr M o = true) ∧ (isOr M p = true)) ∧ M 36 0 < 8 ∧ M 38 o + M 38 p ≤ 10) (if (isOr M o = true) ∧ (isOr M p = true) then 2 else 1) 9 (M 38 o + M 38 p) (fun x y => (cpX 0 (M 38 o) (dM M o) x y || cpX (M 38 o) (M 38 p) (dM M p) x y) || dbX (M 38 o) (M 38 o + M 38 p) (fun _ b => decide (M 38 o ≤ b)) (fun a _ => a) (fun _ b => b) x y)) 3 25) (3, 25) 110 [(0, (1, 0)), (1, (0, o)), (2, (0, p)), (3, (1, M 1 o)), (4, (1, M 1 p)), (5, (1, ((n : Nat) : Int))), (6, (0, v6)), (7, (0, v7))] [] n69 K69 (M2) := by
                intro fu
                induction fu using Nat.strongRecOn with
                | ind fu ih110 =>
                  intro v7 M2 D2 hO2 h3 hl2 hD2 hk2 hk110
                  refine x_iload (dtk dt_X11_stack 57 (110, .iload 7, 2) rfl) rfl ?_
                  refine x_aload (dtk dt_X11_stack 58 (112, .aload 5, 2) rfl) rfl ?_
                  refine fg_X11_117 rfl (dtk dt_X11_stack 59 (114, .getfield 117, 3) rfl) hO2.k hO2.c hO2.n ?_
                  refine x_icmp_ge (tgt := 135) (dtk dt_X11_stack 60 (117, .if_icmp .ge 18, 3) rfl) (by decide) (fun c117 => ?_) (fun c117 => ?_)
                  · skip
                    refine y_iinc (dtk dt_X11_stack 67 (135, .iinc 6 1, 3) rfl) rfl (by decide) ⟨by omega, by omega⟩ ?_
                    refine x_goto (tgt := 95) (dtk dt_X11_stack 68 (138, .goto (-43), 3) rfl) (by decide) ?_
                    refine MW.sub [1, 2, 3, 4, 5, 6, 0] rfl ?_
                    exact ih95 _ (by omega) _ _ _ hO2 (by omega) hl2 (fun x y x0 x1 y0 y1 => db_row (q2 := (M 38 o + M 38 p)) (P := (fun _ b => decide (M 38 o ≤ b))) (g := (fun a _ => a)) (k := (fun _ b => b)) (A := (fun x y => cpX 0 (M 38 o) (dM M o) x y || cpX (M 38 o) (M 38 p) (dM M p) x y)) h1.1 (by rw [show v7 = (M 38 o + M 38 p) by omega] at hD2; exact hD2 x y x0 x1 y0 y1)) hk2 rfl
                  · skip
                    have hPt : (fun _ b => decide (M 38 o ≤ b)) v6 v7 = true := by (simp; omega)
                    refine x_aload (dtk dt_X11_stack 61 (120, .aload 5, 2) rfl) rfl ?_
                    refine x_iload (dtk dt_X11_stack 62 (122, .iload 6, 2) rfl) rfl ?_
                    refine x_iload (dtk dt_X11_stack 63 (124, .iload 7, 2) rfl) rfl ?_
                    refine kc_X11_127 rfl (dtk dt_X11_stack 64 (126, .invokevirtual 127, 3) rfl) (c_X4_mark (G := G) (p := ((n : Nat) : Int)) hO2 (by omega) (by omega)) rfl rfl hO2.k hO2.c (fitG (by decide) (by decide) (by decide) (by decide)) (Nat.le_of_ble_eq_true rfl) (uqK (fun M126_3 hs126_3 hE126_3 => ?_))
                    have hE := hE126_3
                    have hsM := hs126_3
                    refine y_iinc (dtk dt_X11_stack 65 (129, .iinc 7 1, 3) rfl) rfl (by decide) ⟨by omega, by omega⟩ ?_
                    refine x_goto (tgt := 110) (dtk dt_X11_stack 66 (132, .goto (-22), 3) rfl) (by decide) ?_
                    refine MW.sub [1, 2, 3, 4, 5, 6, 7, 0] rfl ?_
                    exact ih110 _ (by omega) _ _ _ (by first | exact hE | exact hO2) (by omega) (by first | exact hl2 | exact (fun x hx => (hsM x (Or.inl hx)).trans (hl2 x hx))) (fun x y x0 x1 y0 y1 => by first | exact db_no (P := (fun _ b => decide (M 38 o ≤ b))) (g := (fun a _ => a)) (k := (fun _ b => b)) (A := (fun x y => (cpX 0 (M 38 o) (dM M o) x y || cpX (M 38 o) (M 38 p) (dM M p) x y) || dbX v6 (M 38 o + M 38 p) (fun _ b => decide (M 38 o ≤ b)) (fun a _ => a) (fun _ b => b) x y)) (by omega) hPf (hD2 x y x0 x1 y0 y1) | exact db_mk (P := (fun _ b => decide (M 38 o ≤ b))) (g := (fun a _ => a)) (k := (fun _ b => b)) (A := (fun x y => (cpX 0 (M 38 o) (dM M o) x y || cpX (M 38 o) (M 38 p) (dM M p) x y) || dbX v6 (M 38 o + M 38 p) (fun _ b => decide (M 38 o ≤ b)) (fun a _ => a) (fun _ b => b) x y)) hO2.ok (by omega) hPt (by first | omega | (dsimp only; omega)) (by first | omega | (dsimp only; omega)) x0 (hD2 x y x0 x1 y0 y1)) (fun y y0 y1 => by first | exact hk2 y y0 y1 | (rw [mrk_o (by omega)]; exact hk2 y y0 y1)) rfl
              refine MW.sub [1, 2, 3, 4, 5, 6, 7, 0] rfl ?_
              exact L110 _ _ _ _ hO1 (by omega) hl1 (fun x y x0 x1 y0 y1 => by rw [hD1 x y x0 x1 y0 y1]; rw [dbR_lo (fun b b0 b1 => by simp; omega), Bool.or_false]) hk1 rfl
        refine MW.sub [4, 5, 6, 3, 2, 1, 0] rfl ?_
        exact L95 _ _ _ _ hO9 (by omega) hl9 (fun x y x0 x1 y0 y1 => by rw [hD9 x y x0 x1 y0 y1, hD8 x y x0 x1 y0 y1, rel_0, Bool.false_or, dbX_0, Bool.or_false]; rfl) (fun y y0 y1 => (hk9 y y0 y1).trans (hk8 y y0 y1)) rfl
      · skip
        have hcc : ¬ (((isOr M o = true) ∧ (isOr M p = true)) ∧ M 36 0 < 8 ∧ M 38 o + M 38 p ≤ 10) := by (have hz := hL.cnt; simp at c42; omega)
        refine x_aload_n (dtk dt_X11_stack 24 (45, .aload_n 0, 1) rfl) rfl ?_
        refine x_iconst (v := 2) ⟨by decide, by decide⟩ (dtk dt_X11_stack 25 (46, .iconst 2, 1) rfl) ?_
        refine kc_X11_71 rfl (dtk dt_X11_stack 26 (47, .invokevirtual 71, 3) rfl) (c_X11_refuse (G := G)  hL.wf) rfl rfl (wk_0 hO.wf) (fitG (by decide) (by decide) (by decide) (by decide)) (Nat.le_of_ble_eq_true rfl) (pqK ?_)
        refine MW.widen (k1 := 3) (k2 := 25) (by decide) (by decide) ?_
        exact x_iret (dtk dt_X11_stack 27 (50, .ireturn, 1) rfl) rfl ⟨fun hc => absurd hc hcc, fun _ => ⟨rfl, by (rw [if_pos ⟨hOi, hQi⟩]; exact ref_fin hL sx.rf hL.rc)⟩⟩
    refine kc_X11_86 rfl (dtk dt_X11_stack 6 (8, .invokevirtual 86, 3) rfl) (c_X11_find_no (G := G)  hL.wf (by rw [hL.cnt]; exact hsp8_0)) rfl rfl (wk_0 hO.wf) (fitG (by decide) (by decide) (by decide) (by decide)) (Nat.le_of_ble_eq_true rfl) (pqK ?_)
    have hQn := isOr_n hsp8_0
    refine x_astore (dtk dt_X11_stack 7 (11, .astore 4, 2) rfl) (by decide) ?_
    refine x_aload_n (dtk dt_X11_stack 8 (13, .aload_n 3, 1) rfl) rfl ?_
    refine x_ifnull (tgt := 22) (dtk dt_X11_stack 9 (14, .ifnull 8, 3) rfl) (by decide) (fun c14 => ?_) (fun c14 => ?_)
    · exact absurd c14 (by omega)
    refine x_aload (dtk dt_X11_stack 10 (17, .aload 4, 2) rfl) rfl ?_
    refine x_ifnonnull (tgt := 28) (dtk dt_X11_stack 11 (19, .ifnonnull 9, 3) rfl) (by decide) (fun c19 => ?_) (fun c19 => ?_)
    · exact absurd c19 (by decide)
    refine x_aload_n (dtk dt_X11_stack 12 (22, .aload_n 0, 1) rfl) rfl ?_
    refine x_iconst (v := 1) ⟨by decide, by decide⟩ (dtk dt_X11_stack 13 (23, .iconst 1, 1) rfl) ?_
    refine kc_X11_71 rfl (dtk dt_X11_stack 14 (24, .invokevirtual 71, 3) rfl) (c_X11_refuse (G := G)  hL.wf) rfl rfl (wk_0 hO.wf) (fitG (by decide) (by decide) (by decide) (by decide)) (Nat.le_of_ble_eq_true rfl) (pqK ?_)
    refine MW.widen (k1 := 3) (k2 := 25) (by decide) (by decide) ?_
    exact x_iret (dtk dt_X11_stack 15 (27, .ireturn, 1) rfl) rfl ⟨fun hc => absurd hc (by first | (rw [hOn]; simp; done) | (rw [hQn]; simp)), fun _ => ⟨rfl, by (rw [if_neg (by first | (rw [hOn]; simp; done) | (rw [hQn]; simp))]; exact ref_fin hL sx.rf hL.rc)⟩⟩
  refine kc_X11_86 rfl (dtk dt_X11_stack 2 (2, .invokevirtual 86, 3) rfl) (c_X11_find_no (G := G)  hL.wf (by rw [hL.cnt]; exact hsp2_0)) rfl rfl (wk_0 hL.wf) (fitG (by decide) (by decide) (by decide) (by decide)) (Nat.le_of_ble_eq_true rfl) (pqK ?_)
  have hOn := isOr_n hsp2_0
  refine x_astore_n (dtk dt_X11_stack 3 (5, .astore_n 3, 1) rfl) (by decide) ?_
  refine x_aload_n (dtk dt_X11_stack 4 (6, .aload_n 0, 1) rfl) rfl ?_
  refine x_iload_n (dtk dt_X11_stack 5 (7, .iload_n 2, 1) rfl) rfl ?_
  by_cases hsp8_0 : 0 ≤ p ∧ p < M 36 0
  · skip
    refine kc_X11_86 rfl (dtk dt_X11_stack 6 (8, .invokevirtual 86, 3) rfl) (c_X11_find (G := G)  hL.wf (by rw [hL.cnt]; exact hsp8_0) (by rw [hL.cnt]; exact hL.c8.2)) rfl rfl (wk_0 hL.wf) (fitG (by decide) (by decide) (by decide) (by decide)) (Nat.le_of_ble_eq_true rfl) (pqK ?_)
    have hQ := hL.ob hsp8_0
    have hQg := hQ.ge
    have hQs := hQ.sz
    have hQP := hL.po hsp8_0
    have hQi := isOr_y hsp8_0
    have hQlt := hQ.lt hf
    refine x_astore (dtk dt_X11_stack 7 (11, .astore 4, 2) rfl) (by decide) ?_
    refine x_aload_n (dtk dt_X11_stack 8 (13, .aload_n 3, 1) rfl) rfl ?_
    refine x_ifnull (tgt := 22) (dtk dt_X11_stack 9 (14, .ifnull 8, 3) rfl) (by decide) (fun c14 => ?_) (fun c14 => ?_)
    rotate_left
    · exact absurd c14 (by decide)
    refine x_aload_n (dtk dt_X11_stack 12 (22, .aload_n 0, 1) rfl) rfl ?_
    refine x_iconst (v := 1) ⟨by decide, by decide⟩ (dtk dt_X11_stack 13 (23, .iconst 1, 1) rfl) ?_
    refine kc_X11_71 rfl (dtk dt_X11_stack 14 (24, .invokevirtual 71, 3) rfl) (c_X11_refuse (G := G)  hL.wf) rfl rfl (wk_0 hL.wf) (fitG (by decide) (by decide) (by decide) (by decide)) (Nat.le_of_ble_eq_true rfl) (pqK ?_)
    refine MW.widen (k1 := 3) (k2 := 25) (by decide) (by decide) ?_
    exact x_iret (dtk dt_X11_stack 15 (27, .ireturn, 1) rfl) rfl ⟨fun hc => absurd hc (by first | (rw [hOn]; simp; done) | (rw [hQn]; simp)), fun _ => ⟨rfl, by (rw [if_neg (by first | (rw [hOn]; simp; done) | (rw [hQn]; simp))]; exact ref_fin hL sx.rf hL.rc)⟩⟩
  refine kc_X11_86 rfl (dtk dt_X11_stack 6 (8, .invokevirtual 86, 3) rfl) (c_X11_find_no (G := G)  hL.wf (by rw [hL.cnt]; exact hsp8_0)) rfl rfl (wk_0 hL.wf) (fitG (by decide) (by decide) (by decide) (by decide)) (Nat.le_of_ble_eq_true rfl) (pqK ?_)
  have hQn := isOr_n hsp8_0
  refine x_astore (dtk dt_X11_stack 7 (11, .astore 4, 2) rfl) (by decide) ?_
  refine x_aload_n (dtk dt_X11_stack 8 (13, .aload_n 3, 1) rfl) rfl ?_
  refine x_ifnull (tgt := 22) (dtk dt_X11_stack 9 (14, .ifnull 8, 3) rfl) (by decide) (fun c14 => ?_) (fun c14 => ?_)
  rotate_left
  · exact absurd c14 (by decide)
  refine x_aload_n (dtk dt_X11_stack 12 (22, .aload_n 0, 1) rfl) rfl ?_
  refine x_iconst (v := 1) ⟨by decide, by decide⟩ (dtk dt_X11_stack 13 (23, .iconst 1, 1) rfl) ?_
  refine kc_X11_71 rfl (dtk dt_X11_stack 14 (24, .invokevirtual 71, 3) rfl) (c_X11_refuse (G := G)  hL.wf) rfl rfl (wk_0 hL.wf) (fitG (by decide) (by decide) (by decide) (by decide)) (Nat.le_of_ble_eq_true rfl) (pqK ?_)
  refine MW.widen (k1 := 3) (k2 := 25) (by decide) (by decide) ?_
  exact x_iret (dtk dt_X11_stack 15 (27, .ireturn, 1) rfl) rfl ⟨fun hc => absurd hc (by first | (rw [hOn]; simp; done) | (rw [hQn]; simp)), fun _ => ⟨rfl, by (rw [if_neg (by first | (rw [hOn]; simp; done) | (rw [hQn]; simp))]; exact ref_fin hL sx.rf hL.rc)⟩⟩
set_option maxRecDepth 100000 in
set_option maxHeartbeats 4000000 in
theorem c_X11_beside {G : GG} {n : Nat} {K : KK} {M : MM} {o p : Int} (hL : LK K M) (hn : 55 ≤ n ∧ n < 50000) : MC G mi_X11_beside 6 3 25 [(1, 0), (0, o), (0, p)] n K M (makQ n K M (((isOr M o = true) ∧ (isOr M p = true)) ∧ M 36 0 < 8 ∧ M 38 o + M 38 p ≤ 10) (if (isOr M o = true) ∧ (isOr M p = true) then 2 else 1) 0 (M 38 o + M 38 p) (fun x y => cpX 0 (M 38 o) (dM M o) x y || cpX (M 38 o) (M 38 p) (dM M p) x y)) := by
  refine MC.intro (lc := [(0, (1, 0)), (1, (0, o)), (2, (0, p))]) (by decide) rfl (by simp [Nat.ble]) (Nat.le_of_ble_eq_true rfl) rfl (fun hMR => ?_)
  have hc8 := hL.c8
  refine MW.factK (fun hf => ?_)
  refine x_aload_n (dtk dt_X11_beside 0 (0, .aload_n 0, 1) rfl) rfl ?_
  refine x_iload_n (dtk dt_X11_beside 1 (1, .iload_n 1, 1) rfl) rfl ?_
  by_cases hsp2_0 : 0 ≤ o ∧ o < M 36 0
  · skip
    refine kc_X11_86 rfl (dtk dt_X11_beside 2 (2, .invokevirtual 86, 3) rfl) (c_X11_find (G := G)  hL.wf (by rw [hL.cnt]; exact hsp2_0) (by rw [hL.cnt]; exact hL.c8.2)) rfl rfl (wk_0 hL.wf) (fitG (by decide) (by decide) (by decide) (by decide)) (Nat.le_of_ble_eq_true rfl) (pqK ?_)
    have hO := hL.ob hsp2_0
    have hOg := hO.ge
    have hOs := hO.sz
    have hOP := hL.po hsp2_0
    have hOi := isOr_y hsp2_0
    have hOlt := hO.lt hf
    refine x_astore_n (dtk dt_X11_beside 3 (5, .astore_n 3, 1) rfl) (by decide) ?_
    refine x_aload_n (dtk dt_X11_beside 4 (6, .aload_n 0, 1) rfl) rfl ?_
    refine x_iload_n (dtk dt_X11_beside 5 (7, .iload_n 2, 1) rfl) rfl ?_
    by_cases hsp8_0 : 0 ≤ p ∧ p < M 36 0
    · skip
      refine kc_X11_86 rfl (dtk dt_X11_beside 6 (8, .invokevirtual 86, 3) rfl) (c_X11_find (G := G)  hL.wf (by rw [hL.cnt]; exact hsp8_0) (by rw [hL.cnt]; exact hL.c8.2)) rfl rfl (wk_0 hO.wf) (fitG (by decide) (by decide) (by decide) (by decide)) (Nat.le_of_ble_eq_true rfl) (pqK ?_)
      have hQ := hL.ob hsp8_0
      have hQg := hQ.ge
      have hQs := hQ.sz
      have hQP := hL.po hsp8_0
      have hQi := isOr_y hsp8_0
      have hQlt := hQ.lt hf
      refine x_astore (dtk dt_X11_beside 7 (11, .astore 4, 2) rfl) (by decide) ?_
      refine x_aload_n (dtk dt_X11_beside 8 (13, .aload_n 3, 1) rfl) rfl ?_
      refine x_ifnull (tgt := 22) (dtk dt_X11_beside 9 (14, .ifnull 8, 3) rfl) (by decide) (fun c14 => ?_) (fun c14 => ?_)
      · exact absurd c14 (by omega)
      refine x_aload (dtk dt_X11_beside 10 (17, .aload 4, 2) rfl) rfl ?_
      refine x_ifnonnull (tgt := 28) (dtk dt_X11_beside 11 (19, .ifnonnull 9, 3) rfl) (by decide) (fun c19 => ?_) (fun c19 => ?_)
      rotate_left
      · exact absurd c19 (by omega)
      refine x_aload_n (dtk dt_X11_beside 16 (28, .aload_n 0, 1) rfl) rfl ?_
      refine x_aload_n (dtk dt_X11_beside 17 (29, .aload_n 3, 1) rfl) rfl ?_
      refine fg_X11_117 rfl (dtk dt_X11_beside 18 (30, .getfield 117, 3) rfl) hO.k hO.c hO.n ?_
      refine x_aload (dtk dt_X11_beside 19 (33, .aload 4, 2) rfl) rfl ?_
      refine fg_X11_117 rfl (dtk dt_X11_beside 20 (35, .getfield 117, 3) rfl) hQ.k hQ.c hQ.n ?_
      refine y_iadd (dtk dt_X11_beside 21 (38, .iadd, 1) rfl) ⟨by omega, by omega⟩ ?_
      refine kc_X11_75 rfl (dtk dt_X11_beside 22 (39, .invokevirtual 75, 3) rfl) (c_X11_hasRoom (G := G)  hL.wf) rfl rfl (wk_0 hO.wf) (fitG (by decide) (by decide) (by decide) (by decide)) (Nat.le_of_ble_eq_true rfl) (pqK ?_)
      refine x_if_neB (tgt := 51) (dtk dt_X11_beside 23 (42, .ifCond .ne 9, 3) rfl) (by decide) (fun c42 => ?_) (fun c42 => ?_)
      · skip
        have hcc : ((isOr M o = true) ∧ (isOr M p = true)) ∧ M 36 0 < 8 ∧ M 38 o + M 38 p ≤ 10 := ⟨⟨hOi, hQi⟩, by (have hz := hL.cnt; simp at c42; omega)⟩
        refine x_new (ci := 0) (dtk dt_X11_beside 28 (51, .new 130, 3) rfl) cl_0 cd_0 w475 w476 w95 (by omega) ⟨by decide, by decide⟩ ?_
        have hw1 : WF (upK K ((n : Nat) : Int) (0, 0)) (zM M ((n : Nat) : Int) (fT 0)) := wf_new hL.wf (by omega)
        refine x_dup rfl (dtk dt_X11_beside 29 (54, .dup, 1) rfl) ?_
        refine x_aload_n (dtk dt_X11_beside 30 (55, .aload_n 0, 1) rfl) rfl ?_
        refine fg_X11_15 rfl (dtk dt_X11_beside 31 (56, .getfield 15, 3) rfl) (wk_0 hw1) (v := M 36 0) (by rw [zM_ne _ (by omega)]; exact hL.cnt) ?_
        refine x_aload_n (dtk dt_X11_beside 32 (59, .aload_n 3, 1) rfl) rfl ?_
        refine fg_X11_117 rfl (dtk dt_X11_beside 33 (60, .getfield 117, 3) rfl) (by rw [upK_ne _ _ (by omega)]; exact hO.k) hO.c (v := M 38 o) (by rw [zM_ne _ (by omega)]; exact hO.n) ?_
        refine x_aload (dtk dt_X11_beside 34 (63, .aload 4, 2) rfl) rfl ?_
        refine fg_X11_117 rfl (dtk dt_X11_beside 35 (65, .getfield 117, 3) rfl) (by rw [upK_ne _ _ (by omega)]; exact hQ.k) hQ.c (v := M 38 p) (by rw [zM_ne _ (by omega)]; exact hQ.n) ?_
        refine y_iadd (dtk dt_X11_beside 36 (68, .iadd, 1) rfl) ⟨by omega, by omega⟩ ?_
        refine kc_X11_132 rfl (dtk dt_X11_beside 37 (69, .invokespecial 132, 3) rfl) (c_X0_init (G := G) (p := ((n : Nat) : Int)) (ci := 0) hw1 (upK_self _ _ _) (by unfold isO; decide) (by omega) (by omega) (by omega) (by omega)) rfl rfl (by omega) (fitG (by decide) (by decide) (by decide) (by decide)) (Nat.le_of_ble_eq_true rfl) (fun rr69 n69 K69 M69 hq69 => ?_)
        obtain ⟨rfl, hn69, hK69, hO69, hl69⟩ := hq69
        replace hK69 := upK3 hK69
        replace hl69 : ∀ x : Int, x < n → M69 x = M x := fun x hx => (hl69 x hx).trans (zM_ne _ (by omega))
        have hw69 := hO69.wf
        refine x_astore (dtk dt_X11_beside 38 (72, .astore 5, 2) rfl) (by decide) ?_
        refine x_aload (dtk dt_X11_beside 39 (74, .aload 5, 2) rfl) rfl ?_
        refine x_aload_n (dtk dt_X11_beside 40 (76, .aload_n 3, 1) rfl) rfl ?_
        refine x_iconst (v := 0) ⟨by decide, by decide⟩ (dtk dt_X11_beside 41 (77, .iconst 0, 1) rfl) ?_
        refine kc_X11_123 rfl (dtk dt_X11_beside 42 (78, .invokevirtual 123, 3) rfl) (c_X4_copyPairs (G := G) (p := ((n : Nat) : Int)) hO69 (hO.old (hO.lt hf) hO69.wf hK69 (fun x _ h2 => hl69 x h2)) (Or.inl (by omega)) (by omega)) rfl rfl hO69.k hO69.c (fitG (by decide) (by decide) (by decide) (by decide)) (Nat.le_of_ble_eq_true rfl) (uqK (fun M78_1 hs78_1 hE78_1 => ?_))
        obtain ⟨D8, hO8, hD8, hk8⟩ := hE78_1
        have hl8 : ∀ x : Int, x < n → M78_1 x = M x := fun x hx => (hs78_1 x (Or.inl hx)).trans (hl69 x hx)
        refine x_aload (dtk dt_X11_beside 43 (81, .aload 5, 2) rfl) rfl ?_
        refine x_aload (dtk dt_X11_beside 44 (83, .aload 4, 2) rfl) rfl ?_
        refine x_aload_n (dtk dt_X11_beside 45 (85, .aload_n 3, 1) rfl) rfl ?_
        refine fg_X11_117 rfl (dtk dt_X11_beside 46 (86, .getfield 117, 3) rfl) (hO.old (hO.lt hf) hO8.wf hK69 (fun x _ h2 => hl8 x h2)).k (hO.old (hO.lt hf) hO8.wf hK69 (fun x _ h2 => hl8 x h2)).c (hO.old (hO.lt hf) hO8.wf hK69 (fun x _ h2 => hl8 x h2)).n ?_
        refine kc_X11_123 rfl (dtk dt_X11_beside 47 (89, .invokevirtual 123, 3) rfl) (c_X4_copyPairs (G := G) (p := ((n : Nat) : Int)) hO8 (hQ.old (hQ.lt hf) hO8.wf hK69 (fun x _ h2 => hl8 x h2)) (Or.inl (by omega)) (by omega)) rfl rfl hO8.k hO8.c (fitG (by decide) (by decide) (by decide) (by decide)) (Nat.le_of_ble_eq_true rfl) (uqK (fun M89_2 hs89_2 hE89_2 => ?_))
        obtain ⟨D9, hO9, hD9, hk9⟩ := hE89_2
        have hl9 : ∀ x : Int, x < n → M89_2 x = M x := fun x hx => (hs89_2 x (Or.inl hx)).trans (hl8 x hx)
        refine x_aload_n (dtk dt_X11_beside 48 (92, .aload_n 0, 1) rfl) rfl ?_
        refine x_aload (dtk dt_X11_beside 49 (93, .aload 5, 2) rfl) rfl ?_
        refine kc_X11_82 rfl (dtk dt_X11_beside 50 (95, .invokevirtual 82, 3) rfl) (c_X11_take (G := G) (p := ((n : Nat) : Int)) hO9.wf hO9.k hO9.c (by rw [hl9 0 (by omega), hL.cnt]; omega)) rfl rfl (wk_0 hw69) (fitG (by decide) (by decide) (by decide) (by decide)) (Nat.le_of_ble_eq_true rfl) (pqK ?_)
        exact x_iret (dtk dt_X11_beside 51 (98, .ireturn, 1) rfl) rfl (by have hz := made_fin hL sx.rf hL.rc hf (by omega) (show n69 = n + 3 by omega) hK69 hO9 hl9; exact ⟨fun _ => ⟨by rw [hz.1], _, hz.2, (fun x y x0 x1 y0 y1 => by rw [hD9 x y x0 x1 y0 y1, hD8 x y x0 x1 y0 y1, rel_0, Bool.false_or]; rfl), (fun y y0 y1 => (hk9 y y0 y1).trans (hk8 y y0 y1))⟩, fun hc => absurd hcc hc⟩)
      · skip
        have hcc : ¬ (((isOr M o = true) ∧ (isOr M p = true)) ∧ M 36 0 < 8 ∧ M 38 o + M 38 p ≤ 10) := by (have hz := hL.cnt; simp at c42; omega)
        refine x_aload_n (dtk dt_X11_beside 24 (45, .aload_n 0, 1) rfl) rfl ?_
        refine x_iconst (v := 2) ⟨by decide, by decide⟩ (dtk dt_X11_beside 25 (46, .iconst 2, 1) rfl) ?_
        refine kc_X11_71 rfl (dtk dt_X11_beside 26 (47, .invokevirtual 71, 3) rfl) (c_X11_refuse (G := G)  hL.wf) rfl rfl (wk_0 hO.wf) (fitG (by decide) (by decide) (by decide) (by decide)) (Nat.le_of_ble_eq_true rfl) (pqK ?_)
        refine MW.widen (k1 := 3) (k2 := 25) (by decide) (by decide) ?_
        exact x_iret (dtk dt_X11_beside 27 (50, .ireturn, 1) rfl) rfl ⟨fun hc => absurd hc hcc, fun _ => ⟨rfl, by (rw [if_pos ⟨hOi, hQi⟩]; exact ref_fin hL sx.rf hL.rc)⟩⟩
    refine kc_X11_86 rfl (dtk dt_X11_beside 6 (8, .invokevirtual 86, 3) rfl) (c_X11_find_no (G := G)  hL.wf (by rw [hL.cnt]; exact hsp8_0)) rfl rfl (wk_0 hO.wf) (fitG (by decide) (by decide) (by decide) (by decide)) (Nat.le_of_ble_eq_true rfl) (pqK ?_)
    have hQn := isOr_n hsp8_0
    refine x_astore (dtk dt_X11_beside 7 (11, .astore 4, 2) rfl) (by decide) ?_
    refine x_aload_n (dtk dt_X11_beside 8 (13, .aload_n 3, 1) rfl) rfl ?_
    refine x_ifnull (tgt := 22) (dtk dt_X11_beside 9 (14, .ifnull 8, 3) rfl) (by decide) (fun c14 => ?_) (fun c14 => ?_)
    · exact absurd c14 (by omega)
    refine x_aload (dtk dt_X11_beside 10 (17, .aload 4, 2) rfl) rfl ?_
    refine x_ifnonnull (tgt := 28) (dtk dt_X11_beside 11 (19, .ifnonnull 9, 3) rfl) (by decide) (fun c19 => ?_) (fun c19 => ?_)
    · exact absurd c19 (by decide)
    refine x_aload_n (dtk dt_X11_beside 12 (22, .aload_n 0, 1) rfl) rfl ?_
    refine x_iconst (v := 1) ⟨by decide, by decide⟩ (dtk dt_X11_beside 13 (23, .iconst 1, 1) rfl) ?_
    refine kc_X11_71 rfl (dtk dt_X11_beside 14 (24, .invokevirtual 71, 3) rfl) (c_X11_refuse (G := G)  hL.wf) rfl rfl (wk_0 hO.wf) (fitG (by decide) (by decide) (by decide) (by decide)) (Nat.le_of_ble_eq_true rfl) (pqK ?_)
    refine MW.widen (k1 := 3) (k2 := 25) (by decide) (by decide) ?_
    exact x_iret (dtk dt_X11_beside 15 (27, .ireturn, 1) rfl) rfl ⟨fun hc => absurd hc (by first | (rw [hOn]; simp; done) | (rw [hQn]; simp)), fun _ => ⟨rfl, by (rw [if_neg (by first | (rw [hOn]; simp; done) | (rw [hQn]; simp))]; exact ref_fin hL sx.rf hL.rc)⟩⟩
  refine kc_X11_86 rfl (dtk dt_X11_beside 2 (2, .invokevirtual 86, 3) rfl) (c_X11_find_no (G := G)  hL.wf (by rw [hL.cnt]; exact hsp2_0)) rfl rfl (wk_0 hL.wf) (fitG (by decide) (by decide) (by decide) (by decide)) (Nat.le_of_ble_eq_true rfl) (pqK ?_)
  have hOn := isOr_n hsp2_0
  refine x_astore_n (dtk dt_X11_beside 3 (5, .astore_n 3, 1) rfl) (by decide) ?_
  refine x_aload_n (dtk dt_X11_beside 4 (6, .aload_n 0, 1) rfl) rfl ?_
  refine x_iload_n (dtk dt_X11_beside 5 (7, .iload_n 2, 1) rfl) rfl ?_
  by_cases hsp8_0 : 0 ≤ p ∧ p < M 36 0
  · skip
    refine kc_X11_86 rfl (dtk dt_X11_beside 6 (8, .invokevirtual 86, 3) rfl) (c_X11_find (G := G)  hL.wf (by rw [hL.cnt]; exact hsp8_0) (by rw [hL.cnt]; exact hL.c8.2)) rfl rfl (wk_0 hL.wf) (fitG (by decide) (by decide) (by decide) (by decide)) (Nat.le_of_ble_eq_true rfl) (pqK ?_)
    have hQ := hL.ob hsp8_0
    have hQg := hQ.ge
    have hQs := hQ.sz
    have hQP := hL.po hsp8_0
    have hQi := isOr_y hsp8_0
    have hQlt := hQ.lt hf
    refine x_astore (dtk dt_X11_beside 7 (11, .astore 4, 2) rfl) (by decide) ?_
    refine x_aload_n (dtk dt_X11_beside 8 (13, .aload_n 3, 1) rfl) rfl ?_
    refine x_ifnull (tgt := 22) (dtk dt_X11_beside 9 (14, .ifnull 8, 3) rfl) (by decide) (fun c14 => ?_) (fun c14 => ?_)
    rotate_left
    · exact absurd c14 (by decide)
    refine x_aload_n (dtk dt_X11_beside 12 (22, .aload_n 0, 1) rfl) rfl ?_
    refine x_iconst (v := 1) ⟨by decide, by decide⟩ (dtk dt_X11_beside 13 (23, .iconst 1, 1) rfl) ?_
    refine kc_X11_71 rfl (dtk dt_X11_beside 14 (24, .invokevirtual 71, 3) rfl) (c_X11_refuse (G := G)  hL.wf) rfl rfl (wk_0 hL.wf) (fitG (by decide) (by decide) (by decide) (by decide)) (Nat.le_of_ble_eq_true rfl) (pqK ?_)
    refine MW.widen (k1 := 3) (k2 := 25) (by decide) (by decide) ?_
    exact x_iret (dtk dt_X11_beside 15 (27, .ireturn, 1) rfl) rfl ⟨fun hc => absurd hc (by first | (rw [hOn]; simp; done) | (rw [hQn]; simp)), fun _ => ⟨rfl, by (rw [if_neg (by first | (rw [hOn]; simp; done) | (rw [hQn]; simp))]; exact ref_fin hL sx.rf hL.rc)⟩⟩
  refine kc_X11_86 rfl (dtk dt_X11_beside 6 (8, .invokevirtual 86, 3) rfl) (c_X11_find_no (G := G)  hL.wf (by rw [hL.cnt]; exact hsp8_0)) rfl rfl (wk_0 hL.wf) (fitG (by decide) (by decide) (by decide) (by decide)) (Nat.le_of_ble_eq_true rfl) (pqK ?_)
  have hQn := isOr_n hsp8_0
  refine x_astore (dtk dt_X11_beside 7 (11, .astore 4, 2) rfl) (by decide) ?_
  refine x_aload_n (dtk dt_X11_beside 8 (13, .aload_n 3, 1) rfl) rfl ?_
  refine x_ifnull (tgt := 22) (dtk dt_X11_beside 9 (14, .ifnull 8, 3) rfl) (by decide) (fun c14 => ?_) (fun c14 => ?_)
  rotate_left
  · exact absurd c14 (by decide)
  refine x_aload_n (dtk dt_X11_beside 12 (22, .aload_n 0, 1) rfl) rfl ?_
  refine x_iconst (v := 1) ⟨by decide, by decide⟩ (dtk dt_X11_beside 13 (23, .iconst 1, 1) rfl) ?_
  refine kc_X11_71 rfl (dtk dt_X11_beside 14 (24, .invokevirtual 71, 3) rfl) (c_X11_refuse (G := G)  hL.wf) rfl rfl (wk_0 hL.wf) (fitG (by decide) (by decide) (by decide) (by decide)) (Nat.le_of_ble_eq_true rfl) (pqK ?_)
  refine MW.widen (k1 := 3) (k2 := 25) (by decide) (by decide) ?_
  exact x_iret (dtk dt_X11_beside 15 (27, .ireturn, 1) rfl) rfl ⟨fun hc => absurd hc (by first | (rw [hOn]; simp; done) | (rw [hQn]; simp)), fun _ => ⟨rfl, by (rw [if_neg (by first | (rw [hOn]; simp; done) | (rw [hQn]; simp))]; exact ref_fin hL sx.rf hL.rc)⟩⟩
