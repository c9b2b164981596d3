/-! ===== the class: marks ===== -/
set_option maxRecDepth 100000 in
set_option maxHeartbeats 4000000 in
theorem c_X4_mark {G : GG} {n : Nat} {K : KK} {M : MM} {a b : Int} {p nm m : Int} {ci : Nat} {d : Int → Int} (hO : OB K M p ci nm m d) (ha : 0 ≤ a ∧ a < m) (hb : 0 ≤ b ∧ b < m) : MC G mi_X4_mark 4 0 0 [(1, p), (0, a), (0, b)] n K M (UQ (so p) none n K M (fun M' => OB K M' p ci nm m (mrk d a b))) := by
  refine MC.intro (lc := [(0, (1, p)), (1, (0, a)), (2, (0, b))]) (by decide) rfl (by simp [Nat.ble]) (Nat.le_of_ble_eq_true rfl) rfl (fun hMR => ?_)
  have hsz := hO.sz
  have hg := hO.ge
  have hpb := prs_b (d := d) hsz
  refine x_aload_n (dtk dt_X4_mark 0 (0, .aload_n 0, 1) rfl) rfl ?_
  refine x_iload_n (dtk dt_X4_mark 1 (1, .iload_n 1, 1) rfl) rfl ?_
  refine x_iload_n (dtk dt_X4_mark 2 (2, .iload_n 2, 1) rfl) rfl ?_
  refine kc_X4_57 rfl (dtk dt_X4_mark 3 (3, .invokevirtual 57, 3) rfl) (c_X4_hasThings (G := G)  hO) rfl rfl hO.k hO.c (fitR (by decide) (by decide)) (Nat.le_of_ble_eq_true rfl) (pqK ?_)
  refine x_if_eqB (tgt := 52) (dtk dt_X4_mark 4 (6, .ifCond .eq 46, 3) rfl) (by decide) (fun c6 => ?_) (fun c6 => ?_)
  · skip
    exact absurd c6 (by simp; omega)
  · skip
    refine x_aload_n (dtk dt_X4_mark 5 (9, .aload_n 0, 1) rfl) rfl ?_
    refine x_iload_n (dtk dt_X4_mark 6 (10, .iload_n 1, 1) rfl) rfl ?_
    refine x_iload_n (dtk dt_X4_mark 7 (11, .iload_n 2, 1) rfl) rfl ?_
    refine kc_X4_61 rfl (dtk dt_X4_mark 8 (12, .invokevirtual 61, 3) rfl) (c_X4_isBelow (G := G)  hO (by omega) (by omega)) rfl rfl hO.k hO.c (fitR (by decide) (by decide)) (Nat.le_of_ble_eq_true rfl) (pqK ?_)
    refine x_if_neB (tgt := 52) (dtk dt_X4_mark 9 (15, .ifCond .ne 37, 3) rfl) (by decide) (fun c15 => ?_) (fun c15 => ?_)
    · skip
      exact ru_v (dtk dt_X4_mark 36 (52, .return_, 1) rfl) rfl so.rf (by first | exact hO.mark ha hb c15 | (rw [show mrk d a b = d from if_pos c15]; exact hO))
    · skip
      refine x_aload_n (dtk dt_X4_mark 10 (18, .aload_n 0, 1) rfl) rfl ?_
      refine fg_X4_9 rfl (dtk dt_X4_mark 11 (19, .getfield 9, 3) rfl) hO.k hO.c hO.dn ?_
      refine x_iload_n (dtk dt_X4_mark 12 (22, .iload_n 2, 1) rfl) rfl ?_
      refine x_dup2 rfl rfl (dtk dt_X4_mark 13 (23, .dup2, 1) rfl) ?_
      refine x_iald (dtk dt_X4_mark 14 (24, .iaload, 1) rfl) hO.kd ⟨by omega, by omega⟩ ?_
      rw [hO.dat ⟨by omega, by omega⟩]
      refine x_iconst (v := 1) ⟨by decide, by decide⟩ (dtk dt_X4_mark 15 (25, .iconst 1, 1) rfl) ?_
      refine x_iload_n (dtk dt_X4_mark 16 (26, .iload_n 1, 1) rfl) rfl ?_
      refine x_ishl (dtk dt_X4_mark 17 (27, .ishl, 1) rfl) ?_
      refine x_ior (dtk dt_X4_mark 18 (28, .ior, 1) rfl) ?_
      change MW G _ _ _ _ _ _ ((0, plus (d b) a) :: _) _ _ _
      refine x_iast (dtk dt_X4_mark 19 (29, .iastore, 1) rfl) hO.kd ⟨by omega, by omega⟩ ?_
      refine x_aload_n (dtk dt_X4_mark 20 (30, .aload_n 0, 1) rfl) rfl ?_
      refine fg_X4_15 rfl (dtk dt_X4_mark 21 (31, .getfield 15, 3) rfl) hO.k hO.c (v := p + 2) (by rw [st2_ne _ (show p ≠ p + 1 by omega)]; exact hO.upp) ?_
      refine x_iload_n (dtk dt_X4_mark 22 (34, .iload_n 1, 1) rfl) rfl ?_
      refine x_dup2 rfl rfl (dtk dt_X4_mark 23 (35, .dup2, 1) rfl) ?_
      refine x_iald (dtk dt_X4_mark 24 (36, .iaload, 1) rfl) hO.ku ⟨by omega, by omega⟩ ?_
      rw [st2_ne _ (show p + 2 ≠ p + 1 by omega), hO.uat ⟨by omega, by omega⟩]
      refine x_iconst (v := 1) ⟨by decide, by decide⟩ (dtk dt_X4_mark 25 (37, .iconst 1, 1) rfl) ?_
      refine x_iload_n (dtk dt_X4_mark 26 (38, .iload_n 2, 1) rfl) rfl ?_
      refine x_ishl (dtk dt_X4_mark 27 (39, .ishl, 1) rfl) ?_
      refine x_ior (dtk dt_X4_mark 28 (40, .ior, 1) rfl) ?_
      refine x_iast (dtk dt_X4_mark 29 (41, .iastore, 1) rfl) hO.ku ⟨by omega, by omega⟩ ?_
      refine x_aload_n (dtk dt_X4_mark 30 (42, .aload_n 0, 1) rfl) rfl ?_
      refine x_dup rfl (dtk dt_X4_mark 31 (43, .dup, 1) rfl) ?_
      refine fg_X4_18 rfl (dtk dt_X4_mark 32 (44, .getfield 18, 3) rfl) hO.k hO.c (v := prs m d) (by rw [st2_ne _ (show p ≠ p + 2 by omega), st2_ne _ (show p ≠ p + 1 by omega)]; exact hO.pc) ?_
      refine x_iconst (v := 1) ⟨by decide, by decide⟩ (dtk dt_X4_mark 33 (47, .iconst 1, 1) rfl) ?_
      refine y_iadd (dtk dt_X4_mark 34 (48, .iadd, 1) rfl) ⟨by omega, by omega⟩ ?_
      refine fp_X4_18 rfl (dtk dt_X4_mark 35 (49, .putfield 18, 3) rfl) hO.k hO.c ?_
      exact ru_v (dtk dt_X4_mark 36 (52, .return_, 1) rfl) rfl so_mark (by first | exact hO.mark ha hb c15 | (rw [show mrk d a b = d from if_pos c15]; exact hO))
set_option maxRecDepth 100000 in
set_option maxHeartbeats 4000000 in
theorem c_X4_copyPairs {G : GG} {n : Nat} {K : KK} {M : MM} {sh q nm2 m2 : Int} {cj : Nat} {e : Int → Int} {p nm m : Int} {ci : Nat} {d : Int → Int} (hO : OB K M p ci nm m d) (hQ : OB K M q cj nm2 m2 e) (hap : q + 2 < p ∨ p + 2 < q) (hsh : 0 ≤ sh ∧ sh + m2 ≤ m) : MC G mi_X4_copyPairs 5 0 0 [(1, p), (1, q), (0, sh)] n K M (UQ (so p) none n K M (fun M' => ∃ D, OB K M' p ci nm m D ∧ (∀ x y, 0 ≤ x → x < m → 0 ≤ y → y < m → rel D x y = (rel d x y || (decide (sh ≤ x) && decide (x < sh + m2) && (decide (sh ≤ y) && decide (y < sh + m2)) && rel e (x - sh) (y - sh)))) ∧ (∀ y, m ≤ y → y < 10 → D y = d y))) := by
  refine MC.intro (lc := [(0, (1, p)), (1, (1, q)), (2, (0, sh))]) (by decide) rfl (by simp [Nat.ble]) (Nat.le_of_ble_eq_true rfl) rfl (fun hMR => ?_)
  have hsz := hO.sz
  have hg := hO.ge
  have hsz2 := hQ.sz
  refine x_iconst (v := 0) ⟨by decide, by decide⟩ (dtk dt_X4_copyPairs 0 (0, .iconst 0, 1) rfl) ?_
  refine x_istore_n (dtk dt_X4_copyPairs 1 (1, .istore_n 3, 1) rfl) (by decide) ?_
  have L2 : ∀ (fu : Nat) (v3 : Int) (M1 : MM) (D1 : Int → Int), (OB K M1 p ci nm m D1) → (0 ≤ v3 ∧ v3 ≤ m2) → (so p M M1) → (∀ x y, 0 ≤ x → x < m → 0 ≤ y → y < m → rel D1 x y = (rel d x y || (decide (sh ≤ x) && decide (x < sh + v3) && (decide (sh ≤ y) && decide (y < sh + m2)) && rel e (x - sh) (y - sh)))) → (∀ y, m ≤ y → y < 10 → D1 y = d y) → (m2 - v3).toNat = fu → MW G mi_X4_copyPairs (rmd 5 0 0) (MZ G (UQ (so p) none n K M (fun M' => ∃ D, OB K M' p ci nm m D ∧ (∀ x y, 0 ≤ x → x < m → 0 ≤ y → y < m → rel D x y = (rel d x y || (decide (sh ≤ x) && decide (x < sh + m2) && (decide (sh ≤ y) && decide (y < sh + m2)) && rel e (x - sh) (y - sh)))) ∧ (∀ y, m ≤ y → y < 10 → D y = d y))) 0 0) (0, 0) 2 [(0, (1, p)), (1, (1, q)), (2, (0, sh)), (3, (0, v3))] [] n K (M1) := by
    intro fu
    induction fu using Nat.strongRecOn with
    | ind fu ih2 =>
      intro v3 M1 D1 hO1 h1 hs1 hD1 hk1 hk2
      refine x_iload_n (dtk dt_X4_copyPairs 2 (2, .iload_n 3, 1) rfl) rfl ?_
      refine x_aload_n (dtk dt_X4_copyPairs 3 (3, .aload_n 1, 1) rfl) rfl ?_
      refine fg_X4_34 rfl (dtk dt_X4_copyPairs 4 (4, .getfield 34, 3) rfl) hQ.k hQ.c (hQ.so hg hap hs1).n ?_
      refine x_icmp_ge (tgt := 55) (dtk dt_X4_copyPairs 5 (7, .if_icmp .ge 48, 3) rfl) (by decide) (fun c7 => ?_) (fun c7 => ?_)
      · skip
        exact ru_v (dtk dt_X4_copyPairs 29 (55, .return_, 1) rfl) rfl hs1 ⟨D1, hO1, fun x y x0 x1 y0 y1 => by (rw [hD1 x y x0 x1 y0 y1, show v3 = m2 by omega]), hk1⟩
      · skip
        refine x_iconst (v := 0) ⟨by decide, by decide⟩ (dtk dt_X4_copyPairs 6 (10, .iconst 0, 1) rfl) ?_
        refine x_istore (dtk dt_X4_copyPairs 7 (11, .istore 4, 2) rfl) (by decide) ?_
        have L13 : ∀ (fu : Nat) (v4 : Int) (M2 : MM) (D2 : Int → Int), (OB K M2 p ci nm m D2) → (0 ≤ v4 ∧ v4 ≤ m2) → (so p M M2) → (∀ x y, 0 ≤ x → x < m → 0 ≤ y → y < m → rel D2 x y = (rel d x y || ((decide (sh ≤ x) && decide (x < sh + v3) && (decide (sh ≤ y) && decide (y < sh + m2)) && rel e (x - sh) (y - sh)) || (decide (x = v3 + sh) && (decide (sh ≤ y) && decide (y < sh + v4)) && rel e v3 (y - sh))))) → (∀ y, m ≤ y → y < 10 → D2 y = d y) → (m2 - v4).toNat = fu → MW G mi_X4_copyPairs (rmd 5 0 0) (MZ G (UQ (so p) none n K M (fun M' => ∃ D, OB K M' p ci nm m D ∧ (∀ x y, 0 ≤ x → x < m → 0 ≤ y → y < m → rel D x y = (rel d x y || (decide (sh ≤ x) && decide (x < sh + m2) && (decide (sh ≤ y) && decide (y < sh + m2)) && rel e (x - sh) (y - sh)))) ∧ (∀ y, m ≤ y → y < 10 → D y = d y))) 0 0) (0, 0) 13 [(0, (1, p)), (1, (1, q)), (2, (0, sh)), (3, (0, v3)), (4, (0, v4))] [] n K (M2) := by
          intro fu
          induction fu using Nat.strongRecOn with
          | ind fu ih13 =>
            intro v4 M2 D2 hO2 h3 hs2 hD2 hk2 hk13
            refine x_iload (dtk dt_X4_copyPairs 8 (13, .iload 4, 2) rfl) rfl ?_
            refine x_aload_n (dtk dt_X4_copyPairs 9 (15, .aload_n 1, 1) rfl) rfl ?_
            refine fg_X4_34 rfl (dtk dt_X4_copyPairs 10 (16, .getfield 34, 3) rfl) hQ.k hQ.c (hQ.so hg hap hs2).n ?_
            refine x_icmp_ge (tgt := 49) (dtk dt_X4_copyPairs 11 (19, .if_icmp .ge 30, 3) rfl) (by decide) (fun c19 => ?_) (fun c19 => ?_)
            · skip
              refine y_iinc (dtk dt_X4_copyPairs 27 (49, .iinc 3 1, 3) rfl) rfl (by decide) ⟨by omega, by omega⟩ ?_
              refine x_goto (tgt := 2) (dtk dt_X4_copyPairs 28 (52, .goto (-50), 3) rfl) (by decide) ?_
              refine MW.sub [1, 2, 3, 0] rfl ?_
              exact ih2 _ (by omega) _ _ _ hO2 (by omega) hs2 (fun x y x0 x1 y0 y1 => by rw [hD2 x y x0 x1 y0 y1]; congr 1; rw [Bool.eq_iff_iff]; by_cases hxe : x = v3 + sh; (focus (rw [show x - sh = v3 by omega]; cases hre : rel e v3 (y - sh) <;> simp <;> omega)); (rw [decide_eq_false hxe]; simp only [Bool.false_and, Bool.or_false, Bool.and_eq_true, decide_eq_true_eq]; constructor <;> intro h <;> refine ⟨⟨⟨h.1.1.1, ?_⟩, h.1.2⟩, h.2⟩ <;> omega)) hk2 rfl
            · skip
              refine x_aload_n (dtk dt_X4_copyPairs 12 (22, .aload_n 1, 1) rfl) rfl ?_
              refine x_iload_n (dtk dt_X4_copyPairs 13 (23, .iload_n 3, 1) rfl) rfl ?_
              refine x_iload (dtk dt_X4_copyPairs 14 (24, .iload 4, 2) rfl) rfl ?_
              refine kc_X4_61 rfl (dtk dt_X4_copyPairs 15 (26, .invokevirtual 61, 3) rfl) (c_X4_isBelow (G := G)  (hQ.so hg hap hs2) (by omega) (by omega)) rfl rfl hQ.k hQ.c (fitR (by decide) (by decide)) (Nat.le_of_ble_eq_true rfl) (pqK ?_)
              refine x_if_eqB (tgt := 43) (dtk dt_X4_copyPairs 16 (29, .ifCond .eq 14, 3) rfl) (by decide) (fun c29 => ?_) (fun c29 => ?_)
              · skip
                refine y_iinc (dtk dt_X4_copyPairs 25 (43, .iinc 4 1, 3) rfl) rfl (by decide) ⟨by omega, by omega⟩ ?_
                refine x_goto (tgt := 13) (dtk dt_X4_copyPairs 26 (46, .goto (-33), 3) rfl) (by decide) ?_
                refine MW.sub [1, 2, 3, 4, 0] rfl ?_
                exact ih13 _ (by omega) _ _ _ (by first | exact hE | exact hO2) (by omega) hs2 (fun x y x0 x1 y0 y1 => by first | (rw [rel_mrk hO2.ok ⟨by omega, by omega⟩ ⟨by omega, by omega⟩ x0, hD2 x y x0 x1 y0 y1, Bool.or_assoc]; congr 1; by_cases hq : x = v3 + sh ∧ y = v4 + sh; (focus (rw [hq.1, hq.2, show v4 + sh - sh = v4 by omega, c29, show decide (v4 + sh < sh + (v4 + 1)) = true from by simp; omega]; simp; omega)); (rw [show (decide (x = v3 + sh) && decide (y = v4 + sh)) = false from by (rw [Bool.eq_false_iff, ne_eq, Bool.and_eq_true, decide_eq_true_eq, decide_eq_true_eq]; exact hq), Bool.or_false]; congr 1; by_cases hx : x = v3 + sh; (focus (rw [show decide (y < sh + (v4 + 1)) = decide (y < sh + v4) from by rw [decide_eq_decide]; omega])); (rw [decide_eq_false hx]; rfl))) | (rw [hD2 x y x0 x1 y0 y1]; congr 1; congr 1; by_cases hq : x = v3 + sh ∧ y = v4 + sh; (focus (rw [hq.1, hq.2, show v4 + sh - sh = v4 by omega, c29]; simp)); (by_cases hx : x = v3 + sh; (focus (rw [show decide (y < sh + (v4 + 1)) = decide (y < sh + v4) from by rw [decide_eq_decide]; omega])); (rw [decide_eq_false hx]; rfl)))) (fun y y0 y1 => by first | exact hk2 y y0 y1 | (rw [mrk_o (by omega)]; exact hk2 y y0 y1)) rfl
              · skip
                refine x_aload_n (dtk dt_X4_copyPairs 17 (32, .aload_n 0, 1) rfl) rfl ?_
                refine x_iload_n (dtk dt_X4_copyPairs 18 (33, .iload_n 3, 1) rfl) rfl ?_
                refine x_iload_n (dtk dt_X4_copyPairs 19 (34, .iload_n 2, 1) rfl) rfl ?_
                refine y_iadd (dtk dt_X4_copyPairs 20 (35, .iadd, 1) rfl) ⟨by omega, by omega⟩ ?_
                refine x_iload (dtk dt_X4_copyPairs 21 (36, .iload 4, 2) rfl) rfl ?_
                refine x_iload_n (dtk dt_X4_copyPairs 22 (38, .iload_n 2, 1) rfl) rfl ?_
                refine y_iadd (dtk dt_X4_copyPairs 23 (39, .iadd, 1) rfl) ⟨by omega, by omega⟩ ?_
                refine kc_X4_64 rfl (dtk dt_X4_copyPairs 24 (40, .invokevirtual 64, 3) rfl) (c_X4_mark (G := G)  hO2 (by omega) (by omega)) rfl rfl hO2.k hO2.c (fitR (by decide) (by decide)) (Nat.le_of_ble_eq_true rfl) (uqK (fun M40_1 hs40_1 hE40_1 => ?_))
                have hE := hE40_1
                refine y_iinc (dtk dt_X4_copyPairs 25 (43, .iinc 4 1, 3) rfl) rfl (by decide) ⟨by omega, by omega⟩ ?_
                refine x_goto (tgt := 13) (dtk dt_X4_copyPairs 26 (46, .goto (-33), 3) rfl) (by decide) ?_
                refine MW.sub [1, 2, 3, 4, 0] rfl ?_
                exact ih13 _ (by omega) _ _ _ (by first | exact hE | exact hO2) (by omega) (hs2.tr hs40_1) (fun x y x0 x1 y0 y1 => by first | (rw [rel_mrk hO2.ok ⟨by omega, by omega⟩ ⟨by omega, by omega⟩ x0, hD2 x y x0 x1 y0 y1, Bool.or_assoc]; congr 1; by_cases hq : x = v3 + sh ∧ y = v4 + sh; (focus (rw [hq.1, hq.2, show v4 + sh - sh = v4 by omega, c29, show decide (v4 + sh < sh + (v4 + 1)) = true from by simp; omega]; simp; omega)); (rw [show (decide (x = v3 + sh) && decide (y = v4 + sh)) = false from by (rw [Bool.eq_false_iff, ne_eq, Bool.and_eq_true, decide_eq_true_eq, decide_eq_true_eq]; exact hq), Bool.or_false]; congr 1; by_cases hx : x = v3 + sh; (focus (rw [show decide (y < sh + (v4 + 1)) = decide (y < sh + v4) from by rw [decide_eq_decide]; omega])); (rw [decide_eq_false hx]; rfl))) | (rw [hD2 x y x0 x1 y0 y1]; congr 1; congr 1; by_cases hq : x = v3 + sh ∧ y = v4 + sh; (focus (rw [hq.1, hq.2, show v4 + sh - sh = v4 by omega, c29]; simp)); (by_cases hx : x = v3 + sh; (focus (rw [show decide (y < sh + (v4 + 1)) = decide (y < sh + v4) from by rw [decide_eq_decide]; omega])); (rw [decide_eq_false hx]; rfl)))) (fun y y0 y1 => by first | exact hk2 y y0 y1 | (rw [mrk_o (by omega)]; exact hk2 y y0 y1)) rfl
        refine MW.sub [1, 2, 3, 4, 0] rfl ?_
        exact L13 _ _ _ _ hO1 (by omega) hs1 (fun x y x0 x1 y0 y1 => by rw [hD1 x y x0 x1 y0 y1, show (decide (x = v3 + sh) && (decide (sh ≤ y) && decide (y < sh + 0)) && rel e v3 (y - sh)) = false from by (rw [show (decide (sh ≤ y) && decide (y < sh + 0)) = false from by (first | (simp; done) | (simp; omega))]; simp), Bool.or_false]) hk1 rfl
  refine MW.sub [1, 2, 3, 0] rfl ?_
  exact L2 _ _ _ _ hO (by omega) so.rf (fun x y x0 x1 y0 y1 => by rw [show (decide (sh ≤ x) && decide (x < sh + 0) && (decide (sh ≤ y) && decide (y < sh + m2)) && rel e (x - sh) (y - sh)) = false from by simp; omega, Bool.or_false]) (fun y _ _ => rfl) rfl
set_option maxRecDepth 100000 in
set_option maxHeartbeats 4000000 in
theorem c_X4_tellPair {G : GG} {n : Nat} {K : KK} {M : MM} {a b : Int} {p nm m : Int} {ci : Nat} {d : Int → Int} (hO : OB K M p ci nm m d) (ha : 0 ≤ a ∧ a < m) (hb : 0 ≤ b ∧ b < m) : MC G mi_X4_tellPair 5 0 0 [(1, p), (0, a), (0, b)] n K M (UQ (so p) (some (0, B (!rel d a b))) n K M (fun M' => OB K M' p ci nm m (if rel d a b then d else tlD m d a b))) := by
  refine MC.intro (lc := [(0, (1, p)), (1, (0, a)), (2, (0, b))]) (by decide) rfl (by simp [Nat.ble]) (Nat.le_of_ble_eq_true rfl) rfl (fun hMR => ?_)
  have hsz := hO.sz
  have hp := p2_b hsz
  have hg := hO.ge
  have nl := nn_zor (hO.dnn (b := a) ⟨by omega, by omega⟩) (nn_zshl1 (a := a) ⟨by omega, by omega⟩)
  have nu := nn_zor (hO.unn b) (nn_zshl1 (a := b) ⟨by omega, by omega⟩)
  refine x_aload_n (dtk dt_X4_tellPair 0 (0, .aload_n 0, 1) rfl) rfl ?_
  refine x_iload_n (dtk dt_X4_tellPair 1 (1, .iload_n 1, 1) rfl) rfl ?_
  refine x_iload_n (dtk dt_X4_tellPair 2 (2, .iload_n 2, 1) rfl) rfl ?_
  refine kc_X4_57 rfl (dtk dt_X4_tellPair 3 (3, .invokevirtual 57, 3) rfl) (c_X4_hasThings (G := G)  hO) rfl rfl hO.k hO.c (fitR (by decide) (by decide)) (Nat.le_of_ble_eq_true rfl) (pqK ?_)
  refine x_if_eqB (tgt := 18) (dtk dt_X4_tellPair 4 (6, .ifCond .eq 12, 3) rfl) (by decide) (fun c6 => ?_) (fun c6 => ?_)
  · skip
    exact absurd c6 (by simp; omega)
  · skip
    refine x_aload_n (dtk dt_X4_tellPair 5 (9, .aload_n 0, 1) rfl) rfl ?_
    refine x_iload_n (dtk dt_X4_tellPair 6 (10, .iload_n 1, 1) rfl) rfl ?_
    refine x_iload_n (dtk dt_X4_tellPair 7 (11, .iload_n 2, 1) rfl) rfl ?_
    refine kc_X4_61 rfl (dtk dt_X4_tellPair 8 (12, .invokevirtual 61, 3) rfl) (c_X4_isBelow (G := G)  hO (by omega) (by omega)) rfl rfl hO.k hO.c (fitR (by decide) (by decide)) (Nat.le_of_ble_eq_true rfl) (pqK ?_)
    refine x_if_eqB (tgt := 20) (dtk dt_X4_tellPair 9 (15, .ifCond .eq 5, 3) rfl) (by decide) (fun c15 => ?_) (fun c15 => ?_)
    · skip
      refine x_aload_n (dtk dt_X4_tellPair 12 (20, .aload_n 0, 1) rfl) rfl ?_
      refine fg_X4_9 rfl (dtk dt_X4_tellPair 13 (21, .getfield 9, 3) rfl) hO.k hO.c hO.dn ?_
      refine x_iload_n (dtk dt_X4_tellPair 14 (24, .iload_n 1, 1) rfl) rfl ?_
      refine x_iald (dtk dt_X4_tellPair 15 (25, .iaload, 1) rfl) hO.kd ⟨by omega, by omega⟩ ?_
      rw [hO.dat ⟨by omega, by omega⟩]
      refine x_iconst (v := 1) ⟨by decide, by decide⟩ (dtk dt_X4_tellPair 16 (26, .iconst 1, 1) rfl) ?_
      refine x_iload_n (dtk dt_X4_tellPair 17 (27, .iload_n 1, 1) rfl) rfl ?_
      refine x_ishl (dtk dt_X4_tellPair 18 (28, .ishl, 1) rfl) ?_
      refine x_ior (dtk dt_X4_tellPair 19 (29, .ior, 1) rfl) ?_
      refine x_istore_n (dtk dt_X4_tellPair 20 (30, .istore_n 3, 1) rfl) (by decide) ?_
      refine x_aload_n (dtk dt_X4_tellPair 21 (31, .aload_n 0, 1) rfl) rfl ?_
      refine fg_X4_15 rfl (dtk dt_X4_tellPair 22 (32, .getfield 15, 3) rfl) hO.k hO.c hO.upp ?_
      refine x_iload_n (dtk dt_X4_tellPair 23 (35, .iload_n 2, 1) rfl) rfl ?_
      refine x_iald (dtk dt_X4_tellPair 24 (36, .iaload, 1) rfl) hO.ku ⟨by omega, by omega⟩ ?_
      rw [hO.uat ⟨by omega, by omega⟩]
      refine x_iconst (v := 1) ⟨by decide, by decide⟩ (dtk dt_X4_tellPair 25 (37, .iconst 1, 1) rfl) ?_
      refine x_iload_n (dtk dt_X4_tellPair 26 (38, .iload_n 2, 1) rfl) rfl ?_
      refine x_ishl (dtk dt_X4_tellPair 27 (39, .ishl, 1) rfl) ?_
      refine x_ior (dtk dt_X4_tellPair 28 (40, .ior, 1) rfl) ?_
      refine x_istore (dtk dt_X4_tellPair 29 (41, .istore 4, 2) rfl) (by decide) ?_
      refine x_iconst (v := 0) ⟨by decide, by decide⟩ (dtk dt_X4_tellPair 30 (43, .iconst 0, 1) rfl) ?_
      refine x_istore (dtk dt_X4_tellPair 31 (44, .istore 5, 2) rfl) (by decide) ?_
      have L46 : ∀ (fu : Nat) (v5 : Int) (M1 : MM) (D1 : Int → Int), (OB K M1 p ci nm m D1) → (0 ≤ v5 ∧ v5 ≤ m) → (so p M M1) → (∀ x y, 0 ≤ x → x < m → 0 ≤ y → y < m → rel D1 x y = (rel d x y || (decide (x < v5) && ((rel d x a || decide (x = a)) && (decide (y = b) || rel d b y))))) → (∀ y, m ≤ y → y < 10 → D1 y = d y) → (m - v5).toNat = fu → MW G mi_X4_tellPair (rmd 5 0 0) (MZ G (UQ (so p) (some (0, B (!rel d a b))) n K M (fun M' => OB K M' p ci nm m (if rel d a b then d else tlD m d a b))) 0 0) (0, 0) 46 [(0, (1, p)), (1, (0, a)), (2, (0, b)), (3, (0, zor (d a) (zshl 1 a))), (4, (0, zor (upS m d b) (zshl 1 b))), (5, (0, v5))] [] n K (M1) := by
        intro fu
        induction fu using Nat.strongRecOn with
        | ind fu ih46 =>
          intro v5 M1 D1 hO1 h1 hs1 hD1 hk1 hk46
          refine x_iload (dtk dt_X4_tellPair 32 (46, .iload 5, 2) rfl) rfl ?_
          refine x_aload_n (dtk dt_X4_tellPair 33 (48, .aload_n 0, 1) rfl) rfl ?_
          refine fg_X4_34 rfl (dtk dt_X4_tellPair 34 (49, .getfield 34, 3) rfl) hO.k hO.c hO1.n ?_
          refine x_icmp_ge (tgt := 106) (dtk dt_X4_tellPair 35 (52, .if_icmp .ge 54, 3) rfl) (by decide) (fun c52 => ?_) (fun c52 => ?_)
          · skip
            refine x_iconst (v := 1) ⟨by decide, by decide⟩ (dtk dt_X4_tellPair 62 (106, .iconst 1, 1) rfl) ?_
            exact ru_b (b := true) (dtk dt_X4_tellPair 63 (107, .ireturn, 1) rfl) rfl (by rw [c15]; rfl) hs1 (by rw [if_neg (by rw [c15]; decide)]; refine hO1.ext (fun y y0 y1 => ?_); by_cases hy : y < m; (exact d_ext hO1.ok (tlD_ok hO.ok ha) (fun x z x0 x1 z0 z1 => by rw [hD1 x z x0 x1 z0 z1, rel_tlD hO.ok ha x0 ⟨z0, z1⟩, decide_eq_true (show x < v5 by omega), Bool.true_and]) ⟨y0, hy⟩); (rw [hk1 y (by omega) y1]; unfold tlD; rw [if_neg (fun z => hy z.1)]))
          · skip
            refine x_iconst (v := 0) ⟨by decide, by decide⟩ (dtk dt_X4_tellPair 36 (55, .iconst 0, 1) rfl) ?_
            refine x_istore (dtk dt_X4_tellPair 37 (56, .istore 6, 2) rfl) (by decide) ?_
            have L58 : ∀ (fu : Nat) (v6 : Int) (M2 : MM) (D2 : Int → Int), (OB K M2 p ci nm m D2) → (0 ≤ v6 ∧ v6 ≤ m) → (so p M M2) → (∀ x y, 0 ≤ x → x < m → 0 ≤ y → y < m → rel D2 x y = (rel d x y || ((decide (x < v5) && ((rel d x a || decide (x = a)) && (decide (y = b) || rel d b y))) || (decide (x = v5) && decide (y < v6) && ((rel d x a || decide (x = a)) && (decide (y = b) || rel d b y)))))) → (∀ y, m ≤ y → y < 10 → D2 y = d y) → (m - v6).toNat = fu → MW G mi_X4_tellPair (rmd 5 0 0) (MZ G (UQ (so p) (some (0, B (!rel d a b))) n K M (fun M' => OB K M' p ci nm m (if rel d a b then d else tlD m d a b))) 0 0) (0, 0) 58 [(0, (1, p)), (1, (0, a)), (2, (0, b)), (3, (0, zor (d a) (zshl 1 a))), (4, (0, zor (upS m d b) (zshl 1 b))), (5, (0, v5)), (6, (0, v6))] [] n K (M2) := by
              intro fu
              induction fu using Nat.strongRecOn with
              | ind fu ih58 =>
                intro v6 M2 D2 hO2 h3 hs2 hD2 hk2 hk58
                refine x_iload (dtk dt_X4_tellPair 38 (58, .iload 6, 2) rfl) rfl ?_
                refine x_aload_n (dtk dt_X4_tellPair 39 (60, .aload_n 0, 1) rfl) rfl ?_
                refine fg_X4_34 rfl (dtk dt_X4_tellPair 40 (61, .getfield 34, 3) rfl) hO.k hO.c hO2.n ?_
                refine x_icmp_ge (tgt := 100) (dtk dt_X4_tellPair 41 (64, .if_icmp .ge 36, 3) rfl) (by decide) (fun c64 => ?_) (fun c64 => ?_)
                · skip
                  refine y_iinc (dtk dt_X4_tellPair 60 (100, .iinc 5 1, 3) rfl) rfl (by decide) ⟨by omega, by omega⟩ ?_
                  refine x_goto (tgt := 46) (dtk dt_X4_tellPair 61 (103, .goto (-57), 3) rfl) (by decide) ?_
                  refine MW.sub [1, 2, 3, 4, 5, 0] rfl ?_
                  exact ih46 _ (by omega) _ _ _ hO2 (by omega) hs2 (fun x y x0 x1 y0 y1 => by rw [hD2 x y x0 x1 y0 y1]; congr 1; by_cases hxe : x = v5; (focus (rw [decide_eq_true hxe, decide_eq_true (show y < v6 by omega), decide_eq_false (show ¬ x < v5 by omega), decide_eq_true (show x < v5 + 1 by omega)]; simp)); (rw [decide_eq_false hxe, show decide (x < v5 + 1) = decide (x < v5) from by (rw [decide_eq_decide]; omega)]; simp)) hk2 rfl
                · skip
                  have hbl0 : bt (zor (d a) (zshl 1 a)) v5 = (rel d v5 a || decide (v5 = a)) := by (rw [bt_zor (hO.dnn (b := a) ⟨by omega, by omega⟩) (nn_zshl1 (a := a) ⟨by omega, by omega⟩), bt_zshl1 ⟨by omega, by omega⟩ h1.1, show decide (a = v5) = decide (v5 = a) from by rw [decide_eq_decide]; exact eq_comm]; rfl)
                  have hbu0 : bt (zor (upS m d b) (zshl 1 b)) v6 = (decide (v6 = b) || rel d b v6) := by (rw [bt_zor (hO.unn b) (nn_zshl1 (a := b) ⟨by omega, by omega⟩), bt_zshl1 ⟨by omega, by omega⟩ h3.1, bt_upS hsz.2 h3.1, decide_eq_true (show v6 < m by omega), show decide (b = v6) = decide (v6 = b) from by rw [decide_eq_decide]; exact eq_comm, Bool.true_and, Bool.or_comm])
                  refine x_iload_n (dtk dt_X4_tellPair 42 (67, .iload_n 3, 1) rfl) rfl ?_
                  refine x_iload (dtk dt_X4_tellPair 43 (68, .iload 5, 2) rfl) rfl ?_
                  refine x_ishr (dtk dt_X4_tellPair 44 (70, .ishr, 1) rfl) ?_
                  refine x_iconst (v := 1) ⟨by decide, by decide⟩ (dtk dt_X4_tellPair 45 (71, .iconst 1, 1) rfl) ?_
                  refine x_iand (dtk dt_X4_tellPair 46 (72, .iand, 1) rfl) ?_
                  rw [zbit nl ⟨by omega, by omega⟩]
                  change MW G _ _ _ _ _ _ ((0, B (bt (zor (d a) (zshl 1 a)) (v5))) :: _) _ _ _
                  refine x_if_eqB (tgt := 94) (dtk dt_X4_tellPair 47 (73, .ifCond .eq 21, 3) rfl) (by decide) (fun c73 => ?_) (fun c73 => ?_)
                  · skip
                    have hbl := hbl0.symm.trans c73
                    refine y_iinc (dtk dt_X4_tellPair 58 (94, .iinc 6 1, 3) rfl) rfl (by decide) ⟨by omega, by omega⟩ ?_
                    refine x_goto (tgt := 58) (dtk dt_X4_tellPair 59 (97, .goto (-39), 3) rfl) (by decide) ?_
                    refine MW.sub [1, 2, 3, 4, 5, 6, 0] rfl ?_
                    exact ih58 _ (by omega) _ _ _ (by first | exact hE | exact hO2) (by omega) hs2 (fun x y x0 x1 y0 y1 => by first | (rw [rel_mrk hO2.ok ⟨by omega, by omega⟩ ⟨by omega, by omega⟩ x0, hD2 x y x0 x1 y0 y1, Bool.or_assoc]; congr 1; by_cases hq : x = v5 ∧ y = v6; (focus (rw [hq.1, hq.2, hbl, hbu, decide_eq_true (show v6 < v6 + 1 by omega)]; simp)); (rw [show (decide (x = v5) && decide (y = v6)) = false from by (rw [Bool.eq_false_iff, ne_eq, Bool.and_eq_true, decide_eq_true_eq, decide_eq_true_eq]; exact hq), Bool.or_false]; congr 1; by_cases hx : x = v5; (focus (rw [show decide (y < v6 + 1) = decide (y < v6) from by rw [decide_eq_decide]; omega])); (rw [decide_eq_false hx]; rfl))) | (rw [hD2 x y x0 x1 y0 y1]; congr 1; congr 1; by_cases hq : x = v5 ∧ y = v6; (focus (rw [hq.1, hq.2]; first | (rw [hbl]; simp; done) | (rw [hbu]; simp))); (by_cases hx : x = v5; (focus (rw [show decide (y < v6 + 1) = decide (y < v6) from by rw [decide_eq_decide]; omega])); (rw [decide_eq_false hx]; rfl)))) (fun y y0 y1 => by first | exact hk2 y y0 y1 | (rw [mrk_o (by omega)]; exact hk2 y y0 y1)) rfl
                  · skip
                    have hbl := hbl0.symm.trans c73
                    refine x_iload (dtk dt_X4_tellPair 48 (76, .iload 4, 2) rfl) rfl ?_
                    refine x_iload (dtk dt_X4_tellPair 49 (78, .iload 6, 2) rfl) rfl ?_
                    refine x_ishr (dtk dt_X4_tellPair 50 (80, .ishr, 1) rfl) ?_
                    refine x_iconst (v := 1) ⟨by decide, by decide⟩ (dtk dt_X4_tellPair 51 (81, .iconst 1, 1) rfl) ?_
                    refine x_iand (dtk dt_X4_tellPair 52 (82, .iand, 1) rfl) ?_
                    rw [zbit nu ⟨by omega, by omega⟩]
                    change MW G _ _ _ _ _ _ ((0, B (bt (zor (upS m d b) (zshl 1 b)) (v6))) :: _) _ _ _
                    refine x_if_eqB (tgt := 94) (dtk dt_X4_tellPair 53 (83, .ifCond .eq 11, 3) rfl) (by decide) (fun c83 => ?_) (fun c83 => ?_)
                    · skip
                      have hbu := hbu0.symm.trans c83
                      refine y_iinc (dtk dt_X4_tellPair 58 (94, .iinc 6 1, 3) rfl) rfl (by decide) ⟨by omega, by omega⟩ ?_
                      refine x_goto (tgt := 58) (dtk dt_X4_tellPair 59 (97, .goto (-39), 3) rfl) (by decide) ?_
                      refine MW.sub [1, 2, 3, 4, 5, 6, 0] rfl ?_
                      exact ih58 _ (by omega) _ _ _ (by first | exact hE | exact hO2) (by omega) hs2 (fun x y x0 x1 y0 y1 => by first | (rw [rel_mrk hO2.ok ⟨by omega, by omega⟩ ⟨by omega, by omega⟩ x0, hD2 x y x0 x1 y0 y1, Bool.or_assoc]; congr 1; by_cases hq : x = v5 ∧ y = v6; (focus (rw [hq.1, hq.2, hbl, hbu, decide_eq_true (show v6 < v6 + 1 by omega)]; simp)); (rw [show (decide (x = v5) && decide (y = v6)) = false from by (rw [Bool.eq_false_iff, ne_eq, Bool.and_eq_true, decide_eq_true_eq, decide_eq_true_eq]; exact hq), Bool.or_false]; congr 1; by_cases hx : x = v5; (focus (rw [show decide (y < v6 + 1) = decide (y < v6) from by rw [decide_eq_decide]; omega])); (rw [decide_eq_false hx]; rfl))) | (rw [hD2 x y x0 x1 y0 y1]; congr 1; congr 1; by_cases hq : x = v5 ∧ y = v6; (focus (rw [hq.1, hq.2]; first | (rw [hbl]; simp; done) | (rw [hbu]; simp))); (by_cases hx : x = v5; (focus (rw [show decide (y < v6 + 1) = decide (y < v6) from by rw [decide_eq_decide]; omega])); (rw [decide_eq_false hx]; rfl)))) (fun y y0 y1 => by first | exact hk2 y y0 y1 | (rw [mrk_o (by omega)]; exact hk2 y y0 y1)) rfl
                    · skip
                      have hbu := hbu0.symm.trans c83
                      refine x_aload_n (dtk dt_X4_tellPair 54 (86, .aload_n 0, 1) rfl) rfl ?_
                      refine x_iload (dtk dt_X4_tellPair 55 (87, .iload 5, 2) rfl) rfl ?_
                      refine x_iload (dtk dt_X4_tellPair 56 (89, .iload 6, 2) rfl) rfl ?_
                      refine kc_X4_64 rfl (dtk dt_X4_tellPair 57 (91, .invokevirtual 64, 3) rfl) (c_X4_mark (G := G)  hO2 (by omega) (by omega)) rfl rfl hO2.k hO2.c (fitR (by decide) (by decide)) (Nat.le_of_ble_eq_true rfl) (uqK (fun M91_1 hs91_1 hE91_1 => ?_))
                      have hE := hE91_1
                      refine y_iinc (dtk dt_X4_tellPair 58 (94, .iinc 6 1, 3) rfl) rfl (by decide) ⟨by omega, by omega⟩ ?_
                      refine x_goto (tgt := 58) (dtk dt_X4_tellPair 59 (97, .goto (-39), 3) rfl) (by decide) ?_
                      refine MW.sub [1, 2, 3, 4, 5, 6, 0] rfl ?_
                      exact ih58 _ (by omega) _ _ _ (by first | exact hE | exact hO2) (by omega) (hs2.tr hs91_1) (fun x y x0 x1 y0 y1 => by first | (rw [rel_mrk hO2.ok ⟨by omega, by omega⟩ ⟨by omega, by omega⟩ x0, hD2 x y x0 x1 y0 y1, Bool.or_assoc]; congr 1; by_cases hq : x = v5 ∧ y = v6; (focus (rw [hq.1, hq.2, hbl, hbu, decide_eq_true (show v6 < v6 + 1 by omega)]; simp)); (rw [show (decide (x = v5) && decide (y = v6)) = false from by (rw [Bool.eq_false_iff, ne_eq, Bool.and_eq_true, decide_eq_true_eq, decide_eq_true_eq]; exact hq), Bool.or_false]; congr 1; by_cases hx : x = v5; (focus (rw [show decide (y < v6 + 1) = decide (y < v6) from by rw [decide_eq_decide]; omega])); (rw [decide_eq_false hx]; rfl))) | (rw [hD2 x y x0 x1 y0 y1]; congr 1; congr 1; by_cases hq : x = v5 ∧ y = v6; (focus (rw [hq.1, hq.2]; first | (rw [hbl]; simp; done) | (rw [hbu]; simp))); (by_cases hx : x = v5; (focus (rw [show decide (y < v6 + 1) = decide (y < v6) from by rw [decide_eq_decide]; omega])); (rw [decide_eq_false hx]; rfl)))) (fun y y0 y1 => by first | exact hk2 y y0 y1 | (rw [mrk_o (by omega)]; exact hk2 y y0 y1)) rfl
            refine MW.sub [1, 2, 3, 4, 5, 6, 0] rfl ?_
            exact L58 _ _ _ _ hO1 (by omega) hs1 (fun x y x0 x1 y0 y1 => by rw [hD1 x y x0 x1 y0 y1, decide_eq_false (show ¬ y < 0 by omega)]; simp) hk1 rfl
      refine MW.sub [3, 4, 5, 2, 1, 0] rfl ?_
      exact L46 _ _ _ _ hO (by omega) so.rf (fun x y x0 x1 y0 y1 => by rw [decide_eq_false (show ¬ x < 0 by omega)]; simp) (fun y _ _ => rfl) rfl
    · skip
      refine x_iconst (v := 0) ⟨by decide, by decide⟩ (dtk dt_X4_tellPair 10 (18, .iconst 0, 1) rfl) ?_
      exact ru_b (b := false) (dtk dt_X4_tellPair 11 (19, .ireturn, 1) rfl) rfl (by rw [c15]; rfl) so.rf (by rw [if_pos c15]; exact hO)
