/-! ===== the class: small ones ===== -/
set_option maxRecDepth 100000 in
set_option maxHeartbeats 4000000 in
theorem c_J9_max_7cf53 {G : GG} {n : Nat} {K : KK} {M : MM} {a b : Int}  : MC G mi_J9_max_7cf53 1 0 0 [(0, a), (0, b)] n K M (PQ (some (0, if a < b then b else a)) n K (M)) := by
  refine MC.introF (lc := [(0, (0, a)), (1, (0, b))]) (by decide +kernel) rfl (by simp [Nat.ble]) (Nat.le_of_ble_eq_true rfl) rfl (fun hMR => ?_)
  refine x_iload_n (dtk dt_J9_max_7cf53 0 (0, .iload_n 0, 1) rfl) rfl ?_
  refine x_iload_n (dtk dt_J9_max_7cf53 1 (1, .iload_n 1, 1) rfl) rfl ?_
  refine x_icmp_lt (tgt := 9) (dtk dt_J9_max_7cf53 2 (2, .if_icmp .lt 7, 3) rfl) (by decide) (fun c2 => ?_) (fun c2 => ?_)
  · skip
    refine x_iload_n (dtk dt_J9_max_7cf53 5 (9, .iload_n 1, 1) rfl) rfl ?_
    exact r_i (dtk dt_J9_max_7cf53 6 (10, .ireturn, 1) rfl) rfl (by first | (rw [if_pos (by omega)]; done) | (rw [if_neg (by omega)])) rfl
  · skip
    refine x_iload_n (dtk dt_J9_max_7cf53 3 (5, .iload_n 0, 1) rfl) rfl ?_
    refine x_goto (tgt := 10) (dtk dt_J9_max_7cf53 4 (6, .goto 4, 3) rfl) (by decide) ?_
    exact r_i (dtk dt_J9_max_7cf53 6 (10, .ireturn, 1) rfl) rfl (by first | (rw [if_pos (by omega)]; done) | (rw [if_neg (by omega)])) rfl
set_option maxRecDepth 100000 in
set_option maxHeartbeats 4000000 in
theorem c_J9_min_7cf53 {G : GG} {n : Nat} {K : KK} {M : MM} {a b : Int}  : MC G mi_J9_min_7cf53 1 0 0 [(0, a), (0, b)] n K M (PQ (some (0, if b < a then b else a)) n K (M)) := by
  refine MC.introF (lc := [(0, (0, a)), (1, (0, b))]) (by decide +kernel) rfl (by simp [Nat.ble]) (Nat.le_of_ble_eq_true rfl) rfl (fun hMR => ?_)
  refine x_iload_n (dtk dt_J9_min_7cf53 0 (0, .iload_n 0, 1) rfl) rfl ?_
  refine x_iload_n (dtk dt_J9_min_7cf53 1 (1, .iload_n 1, 1) rfl) rfl ?_
  refine x_icmp_gt (tgt := 9) (dtk dt_J9_min_7cf53 2 (2, .if_icmp .gt 7, 3) rfl) (by decide) (fun c2 => ?_) (fun c2 => ?_)
  · skip
    refine x_iload_n (dtk dt_J9_min_7cf53 5 (9, .iload_n 1, 1) rfl) rfl ?_
    exact r_i (dtk dt_J9_min_7cf53 6 (10, .ireturn, 1) rfl) rfl (by first | (rw [if_pos (by omega)]; done) | (rw [if_neg (by omega)])) rfl
  · skip
    refine x_iload_n (dtk dt_J9_min_7cf53 3 (5, .iload_n 0, 1) rfl) rfl ?_
    refine x_goto (tgt := 10) (dtk dt_J9_min_7cf53 4 (6, .goto 4, 3) rfl) (by decide) ?_
    exact r_i (dtk dt_J9_min_7cf53 6 (10, .ireturn, 1) rfl) rfl (by first | (rw [if_pos (by omega)]; done) | (rw [if_neg (by omega)])) rfl
set_option maxRecDepth 100000 in
set_option maxHeartbeats 4000000 in
theorem c_J6_bitCount_0f7a4 {G : GG} {n : Nat} {K : KK} {M : MM} {s : Int} (hs : 0 ≤ s ∧ s < 1024) : MC G mi_J6_bitCount_0f7a4 1 0 0 [(0, s)] n K M (PQ (some (0, cnt s)) n K (M)) := by
  refine MC.intro (lc := [(0, (0, s))]) (by decide) rfl (by simp [Nat.ble]) (Nat.le_of_ble_eq_true rfl) rfl (fun hMR => ?_)
  refine x_iload_n (dtk dt_J6_bitCount_0f7a4 0 (0, .iload_n 0, 1) rfl) rfl ?_
  refine x_iload_n (dtk dt_J6_bitCount_0f7a4 1 (1, .iload_n 0, 1) rfl) rfl ?_
  refine x_iconst (v := 1) ⟨by decide, by decide⟩ (dtk dt_J6_bitCount_0f7a4 2 (2, .iconst 1, 1) rfl) ?_
  refine x_iushr (dtk dt_J6_bitCount_0f7a4 3 (3, .iushr, 1) rfl) ?_
  refine x_ldcw (v := 1431655765) (dtk dt_J6_bitCount_0f7a4 4 (4, .ldc_w 265, 3) rfl) ⟨by decide, by decide⟩ w585 ?_
  refine x_iand (dtk dt_J6_bitCount_0f7a4 5 (7, .iand, 1) rfl) ?_
  refine w_isub (dtk dt_J6_bitCount_0f7a4 6 (8, .isub, 1) rfl) ?_
  refine x_istore_n (dtk dt_J6_bitCount_0f7a4 7 (9, .istore_n 0, 1) rfl) (by decide) ?_
  refine x_iload_n (dtk dt_J6_bitCount_0f7a4 8 (10, .iload_n 0, 1) rfl) rfl ?_
  refine x_ldcw (v := 858993459) (dtk dt_J6_bitCount_0f7a4 9 (11, .ldc_w 266, 3) rfl) ⟨by decide, by decide⟩ w586 ?_
  refine x_iand (dtk dt_J6_bitCount_0f7a4 10 (14, .iand, 1) rfl) ?_
  refine x_iload_n (dtk dt_J6_bitCount_0f7a4 11 (15, .iload_n 0, 1) rfl) rfl ?_
  refine x_iconst (v := 2) ⟨by decide, by decide⟩ (dtk dt_J6_bitCount_0f7a4 12 (16, .iconst 2, 1) rfl) ?_
  refine x_iushr (dtk dt_J6_bitCount_0f7a4 13 (17, .iushr, 1) rfl) ?_
  refine x_ldcw (v := 858993459) (dtk dt_J6_bitCount_0f7a4 14 (18, .ldc_w 266, 3) rfl) ⟨by decide, by decide⟩ w586 ?_
  refine x_iand (dtk dt_J6_bitCount_0f7a4 15 (21, .iand, 1) rfl) ?_
  refine w_iadd (dtk dt_J6_bitCount_0f7a4 16 (22, .iadd, 1) rfl) ?_
  refine x_istore_n (dtk dt_J6_bitCount_0f7a4 17 (23, .istore_n 0, 1) rfl) (by decide) ?_
  refine x_iload_n (dtk dt_J6_bitCount_0f7a4 18 (24, .iload_n 0, 1) rfl) rfl ?_
  refine x_iload_n (dtk dt_J6_bitCount_0f7a4 19 (25, .iload_n 0, 1) rfl) rfl ?_
  refine x_iconst (v := 4) ⟨by decide, by decide⟩ (dtk dt_J6_bitCount_0f7a4 20 (26, .iconst 4, 1) rfl) ?_
  refine x_iushr (dtk dt_J6_bitCount_0f7a4 21 (27, .iushr, 1) rfl) ?_
  refine w_iadd (dtk dt_J6_bitCount_0f7a4 22 (28, .iadd, 1) rfl) ?_
  refine x_ldcw (v := 252645135) (dtk dt_J6_bitCount_0f7a4 23 (29, .ldc_w 267, 3) rfl) ⟨by decide, by decide⟩ w587 ?_
  refine x_iand (dtk dt_J6_bitCount_0f7a4 24 (32, .iand, 1) rfl) ?_
  refine x_istore_n (dtk dt_J6_bitCount_0f7a4 25 (33, .istore_n 0, 1) rfl) (by decide) ?_
  refine x_iload_n (dtk dt_J6_bitCount_0f7a4 26 (34, .iload_n 0, 1) rfl) rfl ?_
  refine x_iload_n (dtk dt_J6_bitCount_0f7a4 27 (35, .iload_n 0, 1) rfl) rfl ?_
  refine x_bipush (v := 8) ⟨by decide, by decide⟩ (dtk dt_J6_bitCount_0f7a4 28 (36, .bipush 8, 2) rfl) ?_
  refine x_iushr (dtk dt_J6_bitCount_0f7a4 29 (38, .iushr, 1) rfl) ?_
  refine w_iadd (dtk dt_J6_bitCount_0f7a4 30 (39, .iadd, 1) rfl) ?_
  refine x_istore_n (dtk dt_J6_bitCount_0f7a4 31 (40, .istore_n 0, 1) rfl) (by decide) ?_
  refine x_iload_n (dtk dt_J6_bitCount_0f7a4 32 (41, .iload_n 0, 1) rfl) rfl ?_
  refine x_iload_n (dtk dt_J6_bitCount_0f7a4 33 (42, .iload_n 0, 1) rfl) rfl ?_
  refine x_bipush (v := 16) ⟨by decide, by decide⟩ (dtk dt_J6_bitCount_0f7a4 34 (43, .bipush 16, 2) rfl) ?_
  refine x_iushr (dtk dt_J6_bitCount_0f7a4 35 (45, .iushr, 1) rfl) ?_
  refine w_iadd (dtk dt_J6_bitCount_0f7a4 36 (46, .iadd, 1) rfl) ?_
  refine x_istore_n (dtk dt_J6_bitCount_0f7a4 37 (47, .istore_n 0, 1) rfl) (by decide) ?_
  refine x_iload_n (dtk dt_J6_bitCount_0f7a4 38 (48, .iload_n 0, 1) rfl) rfl ?_
  refine x_bipush (v := 63) ⟨by decide, by decide⟩ (dtk dt_J6_bitCount_0f7a4 39 (49, .bipush 63, 2) rfl) ?_
  refine x_iand (dtk dt_J6_bitCount_0f7a4 40 (51, .iand, 1) rfl) ?_
  exact r_i (dtk dt_J6_bitCount_0f7a4 41 (52, .ireturn, 1) rfl) rfl (bitc hs) rfl
set_option maxRecDepth 100000 in
set_option maxHeartbeats 4000000 in
theorem c_J9_floorMod_7cf53 {G : GG} {n : Nat} {K : KK} {M : MM} {x k : Int} (hx : -100 ≤ x ∧ x ≤ 100) (hk : 1 ≤ k ∧ k ≤ 8) : MC G mi_J9_floorMod_7cf53 1 0 0 [(0, x), (0, k)] n K M (PQ (some (0, mdl x k)) n K (M)) := by
  refine MC.introF (lc := [(0, (0, x)), (1, (0, k))]) (by decide +kernel) rfl (by simp [Nat.ble]) (Nat.le_of_ble_eq_true rfl) rfl (fun hMR => ?_)
  refine x_iload_n (dtk dt_J9_floorMod_7cf53 0 (0, .iload_n 0, 1) rfl) rfl ?_
  refine x_iload_n (dtk dt_J9_floorMod_7cf53 1 (1, .iload_n 1, 1) rfl) rfl ?_
  refine x_irem (by omega) (dtk dt_J9_floorMod_7cf53 2 (2, .irem, 1) rfl) ?_
  have h1 := Int.tmod_lt_of_pos x (show 0 < k by omega)
  have h2 := Int.lt_tmod_of_pos x (show 0 < k by omega)
  refine x_istore_n (dtk dt_J9_floorMod_7cf53 3 (3, .istore_n 2, 1) rfl) (by decide) ?_
  refine x_iload_n (dtk dt_J9_floorMod_7cf53 4 (4, .iload_n 0, 1) rfl) rfl ?_
  refine x_iload_n (dtk dt_J9_floorMod_7cf53 5 (5, .iload_n 1, 1) rfl) rfl ?_
  refine x_ixor (dtk dt_J9_floorMod_7cf53 6 (6, .ixor, 1) rfl) ?_
  refine x_if_ge (tgt := 18) (dtk dt_J9_floorMod_7cf53 7 (7, .ifCond .ge 11, 3) rfl) (by decide) (fun c7 => ?_) (fun c7 => ?_)
  · skip
    refine x_iload_n (dtk dt_J9_floorMod_7cf53 14 (18, .iload_n 2, 1) rfl) rfl ?_
    exact r_i (dtk dt_J9_floorMod_7cf53 15 (19, .ireturn, 1) rfl) rfl (by rw [← fmd_mdl hx hk]; unfold fmd; first | (rw [if_pos (by omega)]; done) | (rw [if_neg (by omega), if_pos (by omega)])) rfl
  · skip
    refine x_iload_n (dtk dt_J9_floorMod_7cf53 8 (10, .iload_n 2, 1) rfl) rfl ?_
    refine x_if_eq (tgt := 18) (dtk dt_J9_floorMod_7cf53 9 (11, .ifCond .eq 7, 3) rfl) (by decide) (fun c11 => ?_) (fun c11 => ?_)
    · skip
      refine x_iload_n (dtk dt_J9_floorMod_7cf53 14 (18, .iload_n 2, 1) rfl) rfl ?_
      exact r_i (dtk dt_J9_floorMod_7cf53 15 (19, .ireturn, 1) rfl) rfl (by rw [← fmd_mdl hx hk]; unfold fmd; first | (rw [if_pos (by omega)]; done) | (rw [if_neg (by omega), if_pos (by omega)])) rfl
    · skip
      refine x_iload_n (dtk dt_J9_floorMod_7cf53 10 (14, .iload_n 2, 1) rfl) rfl ?_
      refine x_iload_n (dtk dt_J9_floorMod_7cf53 11 (15, .iload_n 1, 1) rfl) rfl ?_
      refine y_iadd (dtk dt_J9_floorMod_7cf53 12 (16, .iadd, 1) rfl) ⟨by omega, by omega⟩ ?_
      exact r_i (dtk dt_J9_floorMod_7cf53 13 (17, .ireturn, 1) rfl) rfl (by rw [← fmd_mdl hx hk]; unfold fmd; rw [if_neg (by omega), if_neg (by omega)]) rfl
set_option maxRecDepth 100000 in
set_option maxHeartbeats 4000000 in
theorem c_J7_fill_53178 {G : GG} {n : Nat} {K : KK} {M : MM} {q v : Int} {ln : Nat} (hk : K q = (1, ln)) (hln : ln < 100) : MC G mi_J7_fill_53178 1 0 0 [(1, q), (0, v)] n K M (PQ none n K (setA M q (fun j => if 0 ≤ j ∧ j < ln then v else M q j))) := by
  refine MC.intro (lc := [(0, (1, q)), (1, (0, v))]) (by decide) rfl (by simp [Nat.ble]) (Nat.le_of_ble_eq_true rfl) rfl (fun hMR => ?_)
  refine x_iconst (v := 0) ⟨by decide, by decide⟩ (dtk dt_J7_fill_53178 0 (0, .iconst 0, 1) rfl) ?_
  refine x_istore_n (dtk dt_J7_fill_53178 1 (1, .istore_n 2, 1) rfl) (by decide) ?_
  refine x_aload_n (dtk dt_J7_fill_53178 2 (2, .aload_n 0, 1) rfl) rfl ?_
  refine x_alen (dtk dt_J7_fill_53178 3 (3, .arraylength, 1) rfl) hk (by omega) ?_
  refine x_istore_n (dtk dt_J7_fill_53178 4 (4, .istore_n 3, 1) rfl) (by decide) ?_
  have L5 : ∀ (fu : Nat) (v2 : Int), (0 ≤ v2 ∧ v2 ≤ ln) → ((ln : Int) - v2).toNat = fu → MW G mi_J7_fill_53178 (rmd 1 0 0) (MZ G (PQ none n K (setA M q (fun j => if 0 ≤ j ∧ j < ln then v else M q j))) 0 0) (0, 0) 5 [(0, (1, q)), (1, (0, v)), (2, (0, v2)), (3, (0, (ln : Int)))] [] n K (setA M q (fun j => if 0 ≤ j ∧ j < v2 then v else M q j)) := by
    intro fu
    induction fu using Nat.strongRecOn with
    | ind fu ih5 =>
      intro v2 h1 hk5
      refine x_iload_n (dtk dt_J7_fill_53178 5 (5, .iload_n 2, 1) rfl) rfl ?_
      refine x_iload_n (dtk dt_J7_fill_53178 6 (6, .iload_n 3, 1) rfl) rfl ?_
      refine x_icmp_ge (tgt := 20) (dtk dt_J7_fill_53178 7 (7, .if_icmp .ge 13, 3) rfl) (by decide) (fun c7 => ?_) (fun c7 => ?_)
      · skip
        exact r_v (dtk dt_J7_fill_53178 14 (20, .return_, 1) rfl) rfl (by rw [show v2 = (ln : Int) by omega])
      · skip
        refine x_aload_n (dtk dt_J7_fill_53178 8 (10, .aload_n 0, 1) rfl) rfl ?_
        refine x_iload_n (dtk dt_J7_fill_53178 9 (11, .iload_n 2, 1) rfl) rfl ?_
        refine x_iload_n (dtk dt_J7_fill_53178 10 (12, .iload_n 1, 1) rfl) rfl ?_
        refine x_iast (dtk dt_J7_fill_53178 11 (13, .iastore, 1) rfl) hk ⟨by omega, by omega⟩ ?_
        refine y_iinc (dtk dt_J7_fill_53178 12 (14, .iinc 2 1, 3) rfl) rfl (by decide) ⟨by omega, by omega⟩ ?_
        refine x_goto (tgt := 5) (dtk dt_J7_fill_53178 13 (17, .goto (-12), 3) rfl) (by decide) ?_
        refine MW.sub [1, 2, 0, 3] rfl ?_
        refine MW.mem (show _ = setA M q (fun j => if 0 ≤ j ∧ j < v2 + 1 then v else M q j) from by rw [st2_setA]; congr 1; funext j; by_cases hj : j = v2; (rw [if_pos hj, if_pos (by omega)]); (rw [if_neg hj]; by_cases h2 : 0 ≤ j ∧ j < v2; (rw [if_pos h2, if_pos (by omega)]); (rw [if_neg h2, if_neg (by omega)]))) ?_
        exact ih5 _ (by omega) _ (by omega) rfl
  refine MW.sub [2, 3, 1, 0] rfl ?_
  refine MW.mem (show M = setA M q (fun j => if 0 ≤ j ∧ j < 0 then v else M q j) from by funext x j; unfold setA; split; (rename_i hx; rw [hx]; exact (if_neg (by omega)).symm); rfl) ?_
  exact L5 _ _ (by omega) rfl
set_option maxRecDepth 100000 in
set_option maxHeartbeats 4000000 in
theorem c_X3_empty {G : GG} {n : Nat} {K : KK} {M : MM} {l : Int} {ln : Nat} (hl : LN K M l ln) : MC G mi_X3_empty 1 0 0 [(1, l)] n K M (PQ none n K (st2 M l 1 0)) := by
  refine MC.intro (lc := [(0, (1, l))]) (by decide) rfl (by simp [Nat.ble]) (Nat.le_of_ble_eq_true rfl) rfl (fun hMR => ?_)
  refine x_aload_n (dtk dt_X3_empty 0 (0, .aload_n 0, 1) rfl) rfl ?_
  refine x_iconst (v := 0) ⟨by decide, by decide⟩ (dtk dt_X3_empty 1 (1, .iconst 0, 1) rfl) ?_
  refine fp_X3_9 rfl (dtk dt_X3_empty 2 (2, .putfield 9, 3) rfl) hl.k ?_
  exact r_v (dtk dt_X3_empty 3 (5, .return_, 1) rfl) rfl rfl
set_option maxRecDepth 100000 in
set_option maxHeartbeats 4000000 in
theorem c_X3_add {G : GG} {n : Nat} {K : KK} {M : MM} {l x : Int} {ln : Nat} (hl : LN K M l ln) : MC G mi_X3_add 1 0 0 [(1, l), (0, x)] n K M (PQ none n K (addM M l x ln)) := by
  refine MC.intro (lc := [(0, (1, l)), (1, (0, x))]) (by decide) rfl (by simp [Nat.ble]) (Nat.le_of_ble_eq_true rfl) rfl (fun hMR => ?_)
  have hz := hl.2
  refine x_aload_n (dtk dt_X3_add 0 (0, .aload_n 0, 1) rfl) rfl ?_
  refine fg_X3_9 rfl (dtk dt_X3_add 1 (1, .getfield 9, 3) rfl) hl.k rfl ?_
  refine x_aload_n (dtk dt_X3_add 2 (4, .aload_n 0, 1) rfl) rfl ?_
  refine fg_X3_21 rfl (dtk dt_X3_add 3 (5, .getfield 21, 3) rfl) hl.k hl.it ?_
  refine x_alen (dtk dt_X3_add 4 (8, .arraylength, 1) rfl) hl.kq (by omega) ?_
  refine x_icmp_ge (tgt := 32) (dtk dt_X3_add 5 (9, .if_icmp .ge 23, 3) rfl) (by decide) (fun c9 => ?_) (fun c9 => ?_)
  · skip
    exact r_v (dtk dt_X3_add 18 (32, .return_, 1) rfl) rfl (by unfold addM; first | (rw [if_neg (by omega)]; done) | (rw [if_pos (by omega)]))
  · skip
    refine x_aload_n (dtk dt_X3_add 6 (12, .aload_n 0, 1) rfl) rfl ?_
    refine fg_X3_21 rfl (dtk dt_X3_add 7 (13, .getfield 21, 3) rfl) hl.k hl.it ?_
    refine x_aload_n (dtk dt_X3_add 8 (16, .aload_n 0, 1) rfl) rfl ?_
    refine fg_X3_9 rfl (dtk dt_X3_add 9 (17, .getfield 9, 3) rfl) hl.k rfl ?_
    refine x_iload_n (dtk dt_X3_add 10 (20, .iload_n 1, 1) rfl) rfl ?_
    refine x_iast (dtk dt_X3_add 11 (21, .iastore, 1) rfl) hl.kq ⟨by omega, by omega⟩ ?_
    refine x_aload_n (dtk dt_X3_add 12 (22, .aload_n 0, 1) rfl) rfl ?_
    refine x_dup rfl (dtk dt_X3_add 13 (23, .dup, 1) rfl) ?_
    refine fg_X3_9 rfl (dtk dt_X3_add 14 (24, .getfield 9, 3) rfl) hl.k (v := M l 1) (by rw [st2_ne _ (show l ≠ l + 1 by omega)]) ?_
    refine x_iconst (v := 1) ⟨by decide, by decide⟩ (dtk dt_X3_add 15 (27, .iconst 1, 1) rfl) ?_
    refine y_iadd (dtk dt_X3_add 16 (28, .iadd, 1) rfl) ⟨by omega, by omega⟩ ?_
    refine fp_X3_9 rfl (dtk dt_X3_add 17 (29, .putfield 9, 3) rfl) hl.k ?_
    exact r_v (dtk dt_X3_add 18 (32, .return_, 1) rfl) rfl (by unfold addM; first | (rw [if_neg (by omega)]; done) | (rw [if_pos (by omega)]))
set_option maxRecDepth 100000 in
set_option maxHeartbeats 4000000 in
theorem c_X3_takeLast {G : GG} {n : Nat} {K : KK} {M : MM} {l : Int} {ln : Nat} (hl : LN K M l ln) : MC G mi_X3_takeLast 1 0 0 [(1, l)] n K M (PQ none n K (if 0 < M l 1 then st2 M l 1 (M l 1 - 1) else M)) := by
  refine MC.intro (lc := [(0, (1, l))]) (by decide) rfl (by simp [Nat.ble]) (Nat.le_of_ble_eq_true rfl) rfl (fun hMR => ?_)
  have hz := hl.2
  refine x_aload_n (dtk dt_X3_takeLast 0 (0, .aload_n 0, 1) rfl) rfl ?_
  refine fg_X3_9 rfl (dtk dt_X3_takeLast 1 (1, .getfield 9, 3) rfl) hl.k rfl ?_
  refine x_if_le (tgt := 17) (dtk dt_X3_takeLast 2 (4, .ifCond .le 13, 3) rfl) (by decide) (fun c4 => ?_) (fun c4 => ?_)
  · skip
    exact r_v (dtk dt_X3_takeLast 9 (17, .return_, 1) rfl) rfl (by first | (rw [if_neg (by omega)]; done) | (rw [if_pos (by omega)]))
  · skip
    refine x_aload_n (dtk dt_X3_takeLast 3 (7, .aload_n 0, 1) rfl) rfl ?_
    refine x_dup rfl (dtk dt_X3_takeLast 4 (8, .dup, 1) rfl) ?_
    refine fg_X3_9 rfl (dtk dt_X3_takeLast 5 (9, .getfield 9, 3) rfl) hl.k rfl ?_
    refine x_iconst (v := 1) ⟨by decide, by decide⟩ (dtk dt_X3_takeLast 6 (12, .iconst 1, 1) rfl) ?_
    refine y_isub (dtk dt_X3_takeLast 7 (13, .isub, 1) rfl) ⟨by omega, by omega⟩ ?_
    refine fp_X3_9 rfl (dtk dt_X3_takeLast 8 (14, .putfield 9, 3) rfl) hl.k ?_
    exact r_v (dtk dt_X3_takeLast 9 (17, .return_, 1) rfl) rfl (by first | (rw [if_neg (by omega)]; done) | (rw [if_pos (by omega)]))
set_option maxRecDepth 100000 in
set_option maxHeartbeats 4000000 in
theorem c_X3_at {G : GG} {n : Nat} {K : KK} {M : MM} {l i : Int} {ln : Nat} (hl : LN K M l ln) : MC G mi_X3_at 1 0 0 [(1, l), (0, i)] n K M (PQ (some (0, if 0 ≤ i ∧ i < M l 1 then M (l + 1) i else -1)) n K (M)) := by
  refine MC.intro (lc := [(0, (1, l)), (1, (0, i))]) (by decide) rfl (by simp [Nat.ble]) (Nat.le_of_ble_eq_true rfl) rfl (fun hMR => ?_)
  have hz := hl.2
  refine x_iload_n (dtk dt_X3_at 0 (0, .iload_n 1, 1) rfl) rfl ?_
  refine x_if_lt (tgt := 21) (dtk dt_X3_at 1 (1, .ifCond .lt 20, 3) rfl) (by decide) (fun c1 => ?_) (fun c1 => ?_)
  · skip
    refine x_iconst (v := -1) ⟨by decide, by decide⟩ (dtk dt_X3_at 11 (21, .iconst (-1), 1) rfl) ?_
    exact r_i (dtk dt_X3_at 12 (22, .ireturn, 1) rfl) rfl (by first | (rw [if_neg (by omega)]; done) | (rw [if_pos (by omega)])) rfl
  · skip
    refine x_iload_n (dtk dt_X3_at 2 (4, .iload_n 1, 1) rfl) rfl ?_
    refine x_aload_n (dtk dt_X3_at 3 (5, .aload_n 0, 1) rfl) rfl ?_
    refine fg_X3_9 rfl (dtk dt_X3_at 4 (6, .getfield 9, 3) rfl) hl.k rfl ?_
    refine x_icmp_ge (tgt := 21) (dtk dt_X3_at 5 (9, .if_icmp .ge 12, 3) rfl) (by decide) (fun c9 => ?_) (fun c9 => ?_)
    · skip
      refine x_iconst (v := -1) ⟨by decide, by decide⟩ (dtk dt_X3_at 11 (21, .iconst (-1), 1) rfl) ?_
      exact r_i (dtk dt_X3_at 12 (22, .ireturn, 1) rfl) rfl (by first | (rw [if_neg (by omega)]; done) | (rw [if_pos (by omega)])) rfl
    · skip
      refine x_aload_n (dtk dt_X3_at 6 (12, .aload_n 0, 1) rfl) rfl ?_
      refine fg_X3_21 rfl (dtk dt_X3_at 7 (13, .getfield 21, 3) rfl) hl.k hl.it ?_
      refine x_iload_n (dtk dt_X3_at 8 (16, .iload_n 1, 1) rfl) rfl ?_
      refine x_iald (dtk dt_X3_at 9 (17, .iaload, 1) rfl) hl.kq ⟨by omega, by omega⟩ ?_
      refine x_goto (tgt := 22) (dtk dt_X3_at 10 (18, .goto 4, 3) rfl) (by decide) ?_
      exact r_i (dtk dt_X3_at 12 (22, .ireturn, 1) rfl) rfl (by first | (rw [if_neg (by omega)]; done) | (rw [if_pos (by omega)])) rfl
set_option maxRecDepth 100000 in
set_option maxHeartbeats 4000000 in
theorem c_X3_placeOf {G : GG} {n : Nat} {K : KK} {M : MM} {l x : Int} {ln : Nat} (hl : LN K M l ln) : MC G mi_X3_placeOf 1 0 0 [(1, l), (0, x)] n K M (PQ (some (0, plc (M l 1) (M (l + 1)) x)) n K (M)) := by
  refine MC.intro (lc := [(0, (1, l)), (1, (0, x))]) (by decide) rfl (by simp [Nat.ble]) (Nat.le_of_ble_eq_true rfl) rfl (fun hMR => ?_)
  have hz := hl.2
  refine x_iconst (v := 0) ⟨by decide, by decide⟩ (dtk dt_X3_placeOf 0 (0, .iconst 0, 1) rfl) ?_
  refine x_istore_n (dtk dt_X3_placeOf 1 (1, .istore_n 2, 1) rfl) (by decide) ?_
  have L2 : ∀ (fu : Nat) (v2 : Int), (0 ≤ v2 ∧ v2 ≤ M l 1) → (rs (M l 1) (fun k => if M (l + 1) k = x then k else -1) v2 = plc (M l 1) (M (l + 1)) x) → (M l 1 - v2).toNat = fu → MW G mi_X3_placeOf (rmd 1 0 0) (MZ G (PQ (some (0, plc (M l 1) (M (l + 1)) x)) n K (M)) 0 0) (0, 0) 2 [(0, (1, l)), (1, (0, x)), (2, (0, v2))] [] n K (M) := by
    intro fu
    induction fu using Nat.strongRecOn with
    | ind fu ih2 =>
      intro v2 h1 h2 hk2
      refine x_iload_n (dtk dt_X3_placeOf 2 (2, .iload_n 2, 1) rfl) rfl ?_
      refine x_aload_n (dtk dt_X3_placeOf 3 (3, .aload_n 0, 1) rfl) rfl ?_
      refine fg_X3_9 rfl (dtk dt_X3_placeOf 4 (4, .getfield 9, 3) rfl) hl.k rfl ?_
      refine x_icmp_ge (tgt := 28) (dtk dt_X3_placeOf 5 (7, .if_icmp .ge 21, 3) rfl) (by decide) (fun c7 => ?_) (fun c7 => ?_)
      · skip
        refine x_iconst (v := -1) ⟨by decide, by decide⟩ (dtk dt_X3_placeOf 16 (28, .iconst (-1), 1) rfl) ?_
        exact r_i (dtk dt_X3_placeOf 17 (29, .ireturn, 1) rfl) rfl (by rw [rs_e (by omega)] at h2; exact h2) rfl
      · skip
        refine x_aload_n (dtk dt_X3_placeOf 6 (10, .aload_n 0, 1) rfl) rfl ?_
        refine fg_X3_21 rfl (dtk dt_X3_placeOf 7 (11, .getfield 21, 3) rfl) hl.k hl.it ?_
        refine x_iload_n (dtk dt_X3_placeOf 8 (14, .iload_n 2, 1) rfl) rfl ?_
        refine x_iald (dtk dt_X3_placeOf 9 (15, .iaload, 1) rfl) hl.kq ⟨by omega, by omega⟩ ?_
        refine x_iload_n (dtk dt_X3_placeOf 10 (16, .iload_n 1, 1) rfl) rfl ?_
        refine x_icmp_ne (tgt := 22) (dtk dt_X3_placeOf 11 (17, .if_icmp .ne 5, 3) rfl) (by decide) (fun c17 => ?_) (fun c17 => ?_)
        · skip
          refine y_iinc (dtk dt_X3_placeOf 14 (22, .iinc 2 1, 3) rfl) rfl (by decide) ⟨by omega, by omega⟩ ?_
          refine x_goto (tgt := 2) (dtk dt_X3_placeOf 15 (25, .goto (-23), 3) rfl) (by decide) ?_
          refine MW.sub [1, 2, 0] rfl ?_
          exact ih2 _ (by omega) _ (by omega) (by rw [rs_s (by omega), if_neg c17, oe_m] at h2; exact h2) rfl
        · skip
          refine x_iload_n (dtk dt_X3_placeOf 12 (20, .iload_n 2, 1) rfl) rfl ?_
          exact r_i (dtk dt_X3_placeOf 13 (21, .ireturn, 1) rfl) rfl (by rw [rs_s (by omega), if_pos (by omega), oe_n (by omega)] at h2; exact h2) rfl
  refine MW.sub [1, 2, 0] rfl ?_
  exact L2 _ _ (by omega) rfl rfl
set_option maxRecDepth 100000 in
set_option maxHeartbeats 4000000 in
theorem c_X3_has {G : GG} {n : Nat} {K : KK} {M : MM} {l x : Int} {ln : Nat} (hl : LN K M l ln) : MC G mi_X3_has 2 0 0 [(1, l), (0, x)] n K M (PQ (some (0, B (decide (plc (M l 1) (M (l + 1)) x ≠ -1)))) n K (M)) := by
  refine MC.intro (lc := [(0, (1, l)), (1, (0, x))]) (by decide) rfl (by simp [Nat.ble]) (Nat.le_of_ble_eq_true rfl) rfl (fun hMR => ?_)
  refine x_aload_n (dtk dt_X3_has 0 (0, .aload_n 0, 1) rfl) rfl ?_
  refine x_iload_n (dtk dt_X3_has 1 (1, .iload_n 1, 1) rfl) rfl ?_
  refine kc_X3_25 rfl (dtk dt_X3_has 2 (2, .invokevirtual 25, 3) rfl) (c_X3_placeOf (G := G)  hl) rfl rfl hl.k (fitR (by decide) (by decide)) (Nat.le_of_ble_eq_true rfl) (pqK ?_)
  refine x_iconst (v := -1) ⟨by decide, by decide⟩ (dtk dt_X3_has 3 (5, .iconst (-1), 1) rfl) ?_
  refine x_icmp_eq (tgt := 13) (dtk dt_X3_has 4 (6, .if_icmp .eq 7, 3) rfl) (by decide) (fun c6 => ?_) (fun c6 => ?_)
  · skip
    refine x_iconst (v := 0) ⟨by decide, by decide⟩ (dtk dt_X3_has 7 (13, .iconst 0, 1) rfl) ?_
    exact r_b (b := false) (dtk dt_X3_has 8 (14, .ireturn, 1) rfl) rfl (by simp; omega) rfl
  · skip
    refine x_iconst (v := 1) ⟨by decide, by decide⟩ (dtk dt_X3_has 5 (9, .iconst 1, 1) rfl) ?_
    refine x_goto (tgt := 14) (dtk dt_X3_has 6 (10, .goto 4, 3) rfl) (by decide) ?_
    exact r_b (b := true) (dtk dt_X3_has 8 (14, .ireturn, 1) rfl) rfl (by simp; omega) rfl
set_option maxRecDepth 100000 in
set_option maxHeartbeats 4000000 in
theorem c_X4_hasThing {G : GG} {n : Nat} {K : KK} {M : MM} {a : Int} {p nm m : Int} {ci : Nat} {d : Int → Int} (hO : OB K M p ci nm m d) : MC G mi_X4_hasThing 1 0 0 [(1, p), (0, a)] n K M (PQ (some (0, B (decide (0 ≤ a) && decide (a < m)))) n K (M)) := by
  refine MC.intro (lc := [(0, (1, p)), (1, (0, a))]) (by decide) rfl (by simp [Nat.ble]) (Nat.le_of_ble_eq_true rfl) rfl (fun hMR => ?_)
  refine x_iload_n (dtk dt_X4_hasThing 0 (0, .iload_n 1, 1) rfl) rfl ?_
  refine x_if_lt (tgt := 16) (dtk dt_X4_hasThing 1 (1, .ifCond .lt 15, 3) rfl) (by decide) (fun c1 => ?_) (fun c1 => ?_)
  · skip
    refine x_iconst (v := 0) ⟨by decide, by decide⟩ (dtk dt_X4_hasThing 8 (16, .iconst 0, 1) rfl) ?_
    exact r_b (b := false) (dtk dt_X4_hasThing 9 (17, .ireturn, 1) rfl) rfl (by simp; omega) rfl
  · skip
    refine x_iload_n (dtk dt_X4_hasThing 2 (4, .iload_n 1, 1) rfl) rfl ?_
    refine x_aload_n (dtk dt_X4_hasThing 3 (5, .aload_n 0, 1) rfl) rfl ?_
    refine fg_X4_34 rfl (dtk dt_X4_hasThing 4 (6, .getfield 34, 3) rfl) hO.k hO.c hO.n ?_
    refine x_icmp_ge (tgt := 16) (dtk dt_X4_hasThing 5 (9, .if_icmp .ge 7, 3) rfl) (by decide) (fun c9 => ?_) (fun c9 => ?_)
    · skip
      refine x_iconst (v := 0) ⟨by decide, by decide⟩ (dtk dt_X4_hasThing 8 (16, .iconst 0, 1) rfl) ?_
      exact r_b (b := false) (dtk dt_X4_hasThing 9 (17, .ireturn, 1) rfl) rfl (by simp; omega) rfl
    · skip
      refine x_iconst (v := 1) ⟨by decide, by decide⟩ (dtk dt_X4_hasThing 6 (12, .iconst 1, 1) rfl) ?_
      refine x_goto (tgt := 17) (dtk dt_X4_hasThing 7 (13, .goto 4, 3) rfl) (by decide) ?_
      exact r_b (b := true) (dtk dt_X4_hasThing 9 (17, .ireturn, 1) rfl) rfl (by simp; omega) rfl
set_option maxRecDepth 100000 in
set_option maxHeartbeats 4000000 in
theorem c_X4_hasThings {G : GG} {n : Nat} {K : KK} {M : MM} {a b : Int} {p nm m : Int} {ci : Nat} {d : Int → Int} (hO : OB K M p ci nm m d) : MC G mi_X4_hasThings 2 0 0 [(1, p), (0, a), (0, b)] n K M (PQ (some (0, B ((decide (0 ≤ a) && decide (a < m)) && (decide (0 ≤ b) && decide (b < m))))) n K (M)) := by
  refine MC.intro (lc := [(0, (1, p)), (1, (0, a)), (2, (0, b))]) (by decide) rfl (by simp [Nat.ble]) (Nat.le_of_ble_eq_true rfl) rfl (fun hMR => ?_)
  refine x_aload_n (dtk dt_X4_hasThings 0 (0, .aload_n 0, 1) rfl) rfl ?_
  refine x_iload_n (dtk dt_X4_hasThings 1 (1, .iload_n 1, 1) rfl) rfl ?_
  refine kc_X4_53 rfl (dtk dt_X4_hasThings 2 (2, .invokevirtual 53, 3) rfl) (c_X4_hasThing (G := G)  hO) rfl rfl hO.k hO.c (fitR (by decide) (by decide)) (Nat.le_of_ble_eq_true rfl) (pqK ?_)
  refine x_if_eqB (tgt := 20) (dtk dt_X4_hasThings 3 (5, .ifCond .eq 15, 3) rfl) (by decide) (fun c5 => ?_) (fun c5 => ?_)
  · skip
    refine x_iconst (v := 0) ⟨by decide, by decide⟩ (dtk dt_X4_hasThings 10 (20, .iconst 0, 1) rfl) ?_
    exact r_b (b := false) (dtk dt_X4_hasThings 11 (21, .ireturn, 1) rfl) rfl (by simp_all <;> omega) rfl
  · skip
    refine x_aload_n (dtk dt_X4_hasThings 4 (8, .aload_n 0, 1) rfl) rfl ?_
    refine x_iload_n (dtk dt_X4_hasThings 5 (9, .iload_n 2, 1) rfl) rfl ?_
    refine kc_X4_53 rfl (dtk dt_X4_hasThings 6 (10, .invokevirtual 53, 3) rfl) (c_X4_hasThing (G := G)  hO) rfl rfl hO.k hO.c (fitR (by decide) (by decide)) (Nat.le_of_ble_eq_true rfl) (pqK ?_)
    refine x_if_eqB (tgt := 20) (dtk dt_X4_hasThings 7 (13, .ifCond .eq 7, 3) rfl) (by decide) (fun c13 => ?_) (fun c13 => ?_)
    · skip
      refine x_iconst (v := 0) ⟨by decide, by decide⟩ (dtk dt_X4_hasThings 10 (20, .iconst 0, 1) rfl) ?_
      exact r_b (b := false) (dtk dt_X4_hasThings 11 (21, .ireturn, 1) rfl) rfl (by simp_all <;> omega) rfl
    · skip
      refine x_iconst (v := 1) ⟨by decide, by decide⟩ (dtk dt_X4_hasThings 8 (16, .iconst 1, 1) rfl) ?_
      refine x_goto (tgt := 21) (dtk dt_X4_hasThings 9 (17, .goto 4, 3) rfl) (by decide) ?_
      exact r_b (b := true) (dtk dt_X4_hasThings 11 (21, .ireturn, 1) rfl) rfl (by simp_all <;> omega) rfl
set_option maxRecDepth 100000 in
set_option maxHeartbeats 4000000 in
theorem c_X4_all {G : GG} {n : Nat} {K : KK} {M : MM} {p nm m : Int} {ci : Nat} {d : Int → Int} (hO : OB K M p ci nm m d) : MC G mi_X4_all 1 0 0 [(1, p)] n K M (PQ (some (0, p2 m - 1)) n K (M)) := by
  refine MC.intro (lc := [(0, (1, p))]) (by decide) rfl (by simp [Nat.ble]) (Nat.le_of_ble_eq_true rfl) rfl (fun hMR => ?_)
  have hp := p2_b hO.sz
  refine x_iconst (v := 1) ⟨by decide, by decide⟩ (dtk dt_X4_all 0 (0, .iconst 1, 1) rfl) ?_
  refine x_aload_n (dtk dt_X4_all 1 (1, .aload_n 0, 1) rfl) rfl ?_
  refine fg_X4_34 rfl (dtk dt_X4_all 2 (2, .getfield 34, 3) rfl) hO.k hO.c hO.n ?_
  refine x_ishl (dtk dt_X4_all 3 (5, .ishl, 1) rfl) ?_
  change MW G _ _ _ _ _ _ ((0, p2 m) :: _) _ _ _
  refine x_iconst (v := 1) ⟨by decide, by decide⟩ (dtk dt_X4_all 4 (6, .iconst 1, 1) rfl) ?_
  refine y_isub (dtk dt_X4_all 5 (7, .isub, 1) rfl) ⟨by omega, by omega⟩ ?_
  exact r_i (dtk dt_X4_all 6 (8, .ireturn, 1) rfl) rfl rfl rfl
set_option maxRecDepth 100000 in
set_option maxHeartbeats 4000000 in
theorem c_X4_isBelow {G : GG} {n : Nat} {K : KK} {M : MM} {a b : Int} {p nm m : Int} {ci : Nat} {d : Int → Int} (hO : OB K M p ci nm m d) (ha : 0 ≤ a ∧ a < m) (hb : 0 ≤ b ∧ b < m) : MC G mi_X4_isBelow 3 0 0 [(1, p), (0, a), (0, b)] n K M (PQ (some (0, B (rel d a b))) n K (M)) := by
  refine MC.intro (lc := [(0, (1, p)), (1, (0, a)), (2, (0, b))]) (by decide) rfl (by simp [Nat.ble]) (Nat.le_of_ble_eq_true rfl) rfl (fun hMR => ?_)
  have hsz := hO.sz
  refine x_aload_n (dtk dt_X4_isBelow 0 (0, .aload_n 0, 1) rfl) rfl ?_
  refine x_iload_n (dtk dt_X4_isBelow 1 (1, .iload_n 1, 1) rfl) rfl ?_
  refine x_iload_n (dtk dt_X4_isBelow 2 (2, .iload_n 2, 1) rfl) rfl ?_
  refine kc_X4_57 rfl (dtk dt_X4_isBelow 3 (3, .invokevirtual 57, 3) rfl) (c_X4_hasThings (G := G)  hO) rfl rfl hO.k hO.c (fitR (by decide) (by decide)) (Nat.le_of_ble_eq_true rfl) (pqK ?_)
  refine x_if_eqB (tgt := 26) (dtk dt_X4_isBelow 4 (6, .ifCond .eq 20, 3) rfl) (by decide) (fun c6 => ?_) (fun c6 => ?_)
  · skip
    exact absurd c6 (by simp; omega)
  · skip
    refine x_aload_n (dtk dt_X4_isBelow 5 (9, .aload_n 0, 1) rfl) rfl ?_
    refine fg_X4_9 rfl (dtk dt_X4_isBelow 6 (10, .getfield 9, 3) rfl) hO.k hO.c hO.dn ?_
    refine x_iload_n (dtk dt_X4_isBelow 7 (13, .iload_n 2, 1) rfl) rfl ?_
    refine x_iald (dtk dt_X4_isBelow 8 (14, .iaload, 1) rfl) hO.kd ⟨by omega, by omega⟩ ?_
    rw [hO.dat ⟨by omega, by omega⟩]
    refine x_iload_n (dtk dt_X4_isBelow 9 (15, .iload_n 1, 1) rfl) rfl ?_
    refine x_ishr (dtk dt_X4_isBelow 10 (16, .ishr, 1) rfl) ?_
    refine x_iconst (v := 1) ⟨by decide, by decide⟩ (dtk dt_X4_isBelow 11 (17, .iconst 1, 1) rfl) ?_
    refine x_iand (dtk dt_X4_isBelow 12 (18, .iand, 1) rfl) ?_
    rw [zbit (hO.dnn ⟨by omega, by omega⟩) ⟨by omega, by omega⟩]
    change MW G _ _ _ _ _ _ ((0, B (rel d a b)) :: _) _ _ _
    refine x_if_eq (tgt := 26) (dtk dt_X4_isBelow 13 (19, .ifCond .eq 7, 3) rfl) (by decide) (fun c19 => ?_) (fun c19 => ?_)
    · skip
      refine x_iconst (v := 0) ⟨by decide, by decide⟩ (dtk dt_X4_isBelow 16 (26, .iconst 0, 1) rfl) ?_
      exact r_b (b := false) (dtk dt_X4_isBelow 17 (27, .ireturn, 1) rfl) rfl (by cases hq : rel d a b <;> simp_all [B]) rfl
    · skip
      refine x_iconst (v := 1) ⟨by decide, by decide⟩ (dtk dt_X4_isBelow 14 (22, .iconst 1, 1) rfl) ?_
      refine x_goto (tgt := 27) (dtk dt_X4_isBelow 15 (23, .goto 4, 3) rfl) (by decide) ?_
      exact r_b (b := true) (dtk dt_X4_isBelow 17 (27, .ireturn, 1) rfl) rfl (by cases hq : rel d a b <;> simp_all [B]) rfl
set_option maxRecDepth 100000 in
set_option maxHeartbeats 4000000 in
theorem c_X4_isNext {G : GG} {n : Nat} {K : KK} {M : MM} {a b : Int} {p nm m : Int} {ci : Nat} {d : Int → Int} (hO : OB K M p ci nm m d) (ha : 0 ≤ a ∧ a < m) (hb : 0 ≤ b ∧ b < m) : MC G mi_X4_isNext 4 0 0 [(1, p), (0, a), (0, b)] n K M (PQ (some (0, B (nxt m d a b))) n K (M)) := by
  refine MC.intro (lc := [(0, (1, p)), (1, (0, a)), (2, (0, b))]) (by decide) rfl (by simp [Nat.ble]) (Nat.le_of_ble_eq_true rfl) rfl (fun hMR => ?_)
  have hsz := hO.sz
  refine x_aload_n (dtk dt_X4_isNext 0 (0, .aload_n 0, 1) rfl) rfl ?_
  refine x_iload_n (dtk dt_X4_isNext 1 (1, .iload_n 1, 1) rfl) rfl ?_
  refine x_iload_n (dtk dt_X4_isNext 2 (2, .iload_n 2, 1) rfl) rfl ?_
  refine kc_X4_61 rfl (dtk dt_X4_isNext 3 (3, .invokevirtual 61, 3) rfl) (c_X4_isBelow (G := G)  hO (by omega) (by omega)) rfl rfl hO.k hO.c (fitR (by decide) (by decide)) (Nat.le_of_ble_eq_true rfl) (pqK ?_)
  refine x_if_eqB (tgt := 29) (dtk dt_X4_isNext 4 (6, .ifCond .eq 23, 3) rfl) (by decide) (fun c6 => ?_) (fun c6 => ?_)
  · skip
    refine x_iconst (v := 0) ⟨by decide, by decide⟩ (dtk dt_X4_isNext 17 (29, .iconst 0, 1) rfl) ?_
    exact r_b (b := false) (dtk dt_X4_isNext 18 (30, .ireturn, 1) rfl) rfl (by rw [nxt_dis hO.ok hb]; unfold dis; first | (rw [c6]; rfl) | (rw [c6, decide_eq_false c22]; rfl) | (rw [c6, decide_eq_true (by omega)]; rfl)) rfl
  · skip
    refine x_aload_n (dtk dt_X4_isNext 5 (9, .aload_n 0, 1) rfl) rfl ?_
    refine fg_X4_15 rfl (dtk dt_X4_isNext 6 (10, .getfield 15, 3) rfl) hO.k hO.c hO.upp ?_
    refine x_iload_n (dtk dt_X4_isNext 7 (13, .iload_n 1, 1) rfl) rfl ?_
    refine x_iald (dtk dt_X4_isNext 8 (14, .iaload, 1) rfl) hO.ku ⟨by omega, by omega⟩ ?_
    rw [hO.uat ⟨by omega, by omega⟩]
    refine x_aload_n (dtk dt_X4_isNext 9 (15, .aload_n 0, 1) rfl) rfl ?_
    refine fg_X4_9 rfl (dtk dt_X4_isNext 10 (16, .getfield 9, 3) rfl) hO.k hO.c hO.dn ?_
    refine x_iload_n (dtk dt_X4_isNext 11 (19, .iload_n 2, 1) rfl) rfl ?_
    refine x_iald (dtk dt_X4_isNext 12 (20, .iaload, 1) rfl) hO.kd ⟨by omega, by omega⟩ ?_
    rw [hO.dat ⟨by omega, by omega⟩]
    refine x_iand (dtk dt_X4_isNext 13 (21, .iand, 1) rfl) ?_
    refine x_if_ne (tgt := 29) (dtk dt_X4_isNext 14 (22, .ifCond .ne 7, 3) rfl) (by decide) (fun c22 => ?_) (fun c22 => ?_)
    · skip
      refine x_iconst (v := 0) ⟨by decide, by decide⟩ (dtk dt_X4_isNext 17 (29, .iconst 0, 1) rfl) ?_
      exact r_b (b := false) (dtk dt_X4_isNext 18 (30, .ireturn, 1) rfl) rfl (by rw [nxt_dis hO.ok hb]; unfold dis; first | (rw [c6]; rfl) | (rw [c6, decide_eq_false c22]; rfl) | (rw [c6, decide_eq_true (by omega)]; rfl)) rfl
    · skip
      refine x_iconst (v := 1) ⟨by decide, by decide⟩ (dtk dt_X4_isNext 15 (25, .iconst 1, 1) rfl) ?_
      refine x_goto (tgt := 30) (dtk dt_X4_isNext 16 (26, .goto 4, 3) rfl) (by decide) ?_
      exact r_b (b := true) (dtk dt_X4_isNext 18 (30, .ireturn, 1) rfl) rfl (by rw [nxt_dis hO.ok hb]; unfold dis; first | (rw [c6]; rfl) | (rw [c6, decide_eq_false c22]; rfl) | (rw [c6, decide_eq_true (by omega)]; rfl)) rfl
set_option maxRecDepth 100000 in
set_option maxHeartbeats 4000000 in
theorem c_X4_areUnordered {G : GG} {n : Nat} {K : KK} {M : MM} {a b : Int} {p nm m : Int} {ci : Nat} {d : Int → Int} (hO : OB K M p ci nm m d) (ha : 0 ≤ a ∧ a < m) (hb : 0 ≤ b ∧ b < m) : MC G mi_X4_areUnordered 4 0 0 [(1, p), (0, a), (0, b)] n K M (PQ (some (0, B (apr d a b))) n K (M)) := by
  refine MC.intro (lc := [(0, (1, p)), (1, (0, a)), (2, (0, b))]) (by decide) rfl (by simp [Nat.ble]) (Nat.le_of_ble_eq_true rfl) rfl (fun hMR => ?_)
  refine x_iload_n (dtk dt_X4_areUnordered 0 (0, .iload_n 1, 1) rfl) rfl ?_
  refine x_iload_n (dtk dt_X4_areUnordered 1 (1, .iload_n 2, 1) rfl) rfl ?_
  refine x_icmp_eq (tgt := 27) (dtk dt_X4_areUnordered 2 (2, .if_icmp .eq 25, 3) rfl) (by decide) (fun c2 => ?_) (fun c2 => ?_)
  · skip
    refine x_iconst (v := 0) ⟨by decide, by decide⟩ (dtk dt_X4_areUnordered 15 (27, .iconst 0, 1) rfl) ?_
    exact r_b (b := false) (dtk dt_X4_areUnordered 16 (28, .ireturn, 1) rfl) rfl (by unfold apr; simp_all) rfl
  · skip
    refine x_aload_n (dtk dt_X4_areUnordered 3 (5, .aload_n 0, 1) rfl) rfl ?_
    refine x_iload_n (dtk dt_X4_areUnordered 4 (6, .iload_n 1, 1) rfl) rfl ?_
    refine x_iload_n (dtk dt_X4_areUnordered 5 (7, .iload_n 2, 1) rfl) rfl ?_
    refine kc_X4_61 rfl (dtk dt_X4_areUnordered 6 (8, .invokevirtual 61, 3) rfl) (c_X4_isBelow (G := G)  hO (by omega) (by omega)) rfl rfl hO.k hO.c (fitR (by decide) (by decide)) (Nat.le_of_ble_eq_true rfl) (pqK ?_)
    refine x_if_neB (tgt := 27) (dtk dt_X4_areUnordered 7 (11, .ifCond .ne 16, 3) rfl) (by decide) (fun c11 => ?_) (fun c11 => ?_)
    · skip
      refine x_iconst (v := 0) ⟨by decide, by decide⟩ (dtk dt_X4_areUnordered 15 (27, .iconst 0, 1) rfl) ?_
      exact r_b (b := false) (dtk dt_X4_areUnordered 16 (28, .ireturn, 1) rfl) rfl (by unfold apr; simp_all) rfl
    · skip
      refine x_aload_n (dtk dt_X4_areUnordered 8 (14, .aload_n 0, 1) rfl) rfl ?_
      refine x_iload_n (dtk dt_X4_areUnordered 9 (15, .iload_n 2, 1) rfl) rfl ?_
      refine x_iload_n (dtk dt_X4_areUnordered 10 (16, .iload_n 1, 1) rfl) rfl ?_
      refine kc_X4_61 rfl (dtk dt_X4_areUnordered 11 (17, .invokevirtual 61, 3) rfl) (c_X4_isBelow (G := G)  hO (by omega) (by omega)) rfl rfl hO.k hO.c (fitR (by decide) (by decide)) (Nat.le_of_ble_eq_true rfl) (pqK ?_)
      refine x_if_neB (tgt := 27) (dtk dt_X4_areUnordered 12 (20, .ifCond .ne 7, 3) rfl) (by decide) (fun c20 => ?_) (fun c20 => ?_)
      · skip
        refine x_iconst (v := 0) ⟨by decide, by decide⟩ (dtk dt_X4_areUnordered 15 (27, .iconst 0, 1) rfl) ?_
        exact r_b (b := false) (dtk dt_X4_areUnordered 16 (28, .ireturn, 1) rfl) rfl (by unfold apr; simp_all) rfl
      · skip
        refine x_iconst (v := 1) ⟨by decide, by decide⟩ (dtk dt_X4_areUnordered 13 (23, .iconst 1, 1) rfl) ?_
        refine x_goto (tgt := 28) (dtk dt_X4_areUnordered 14 (24, .goto 4, 3) rfl) (by decide) ?_
        exact r_b (b := true) (dtk dt_X4_areUnordered 16 (28, .ireturn, 1) rfl) rfl (by unfold apr; simp_all) rfl
