/-! ===== the class: times ===== -/
set_option maxRecDepth 100000 in
set_option maxHeartbeats 4000000 in
theorem c_X11_markAllOver {G : GG} {n : Nat} {K : KK} {M : MM} {x y q nm2 m2 r nm3 m3 : Int} {cj ck : Nat} {e e3 : Int → Int} {p nm m : Int} {ci : Nat} {d : Int → Int} (hO : OB K M p ci nm m d) (hQ : OB K M q cj nm2 m2 e) (hS : OB K M r ck nm3 m3 e3) (hap : q + 2 < p ∨ p + 2 < q) (hap2 : r + 2 < p ∨ p + 2 < r) (hx : 0 ≤ x ∧ x < m2) (hy : 0 ≤ y ∧ y < m3) (hmm : m2 * m3 = m) : MC G mi_X11_markAllOver 5 0 0 [(1, p), (1, q), (1, r), (0, x), (0, y)] n K M (UQ (so p) none n K M (fun M' => ∃ D, OB K M' p ci nm m D ∧ (∀ s t, 0 ≤ s → s < m → 0 ≤ t → t < m → rel D s t = (rel d s t || dbX m2 m3 (fun v w => (decide (x = v) || rel e x v) && (decide (y = w) || rel e3 y w) && (decide (x ≠ v) || decide (y ≠ w))) (fun _ _ => x * m3 + y) (fun v w => v * m3 + w) s t)) ∧ (∀ y, m ≤ y → y < 10 → D y = d y))) := by
  refine MC.intro (lc := [(0, (1, p)), (1, (1, q)), (2, (1, r)), (3, (0, x)), (4, (0, y))]) (by decide) rfl (by simp [Nat.ble]) (Nat.le_of_ble_eq_true rfl) rfl (fun hMR => ?_)
  have hsz := hO.sz
  have hg := hO.ge
  have hsz2 := hQ.sz
  have hsz3 := hS.sz
  have hix := idx_lt hx hy
  rw [hmm] at hix
  refine x_iconst (v := 0) ⟨by decide, by decide⟩ (dtk dt_X11_markAllOver 0 (0, .iconst 0, 1) rfl) ?_
  refine x_istore (dtk dt_X11_markAllOver 1 (1, .istore 5, 2) rfl) (by decide) ?_
  have L3 : ∀ (fu : Nat) (v5 : Int) (M1 : MM) (D1 : Int → Int), (OB K M1 p ci nm m D1) → (0 ≤ v5 ∧ v5 ≤ m2) → (so p M M1) → (∀ s t, 0 ≤ s → s < m → 0 ≤ t → t < m → rel D1 s t = ((rel d s t || dbX v5 m3 (fun v w => (decide (x = v) || rel e x v) && (decide (y = w) || rel e3 y w) && (decide (x ≠ v) || decide (y ≠ w))) (fun _ _ => x * m3 + y) (fun v w => v * m3 + w) s t))) → (∀ y, m ≤ y → y < 10 → D1 y = d y) → (m2 - v5).toNat = fu → MW G mi_X11_markAllOver (rmd 5 0 0) (MZ G (UQ (so p) none n K M (fun M' => ∃ D, OB K M' p ci nm m D ∧ (∀ s t, 0 ≤ s → s < m → 0 ≤ t → t < m → rel D s t = (rel d s t || dbX m2 m3 (fun v w => (decide (x = v) || rel e x v) && (decide (y = w) || rel e3 y w) && (decide (x ≠ v) || decide (y ≠ w))) (fun _ _ => x * m3 + y) (fun v w => v * m3 + w) s t)) ∧ (∀ y, m ≤ y → y < 10 → D y = d y))) 0 0) (0, 0) 3 [(0, (1, p)), (1, (1, q)), (2, (1, r)), (3, (0, x)), (4, (0, y)), (5, (0, v5))] [] n K (M1) := by
    intro fu
    induction fu using Nat.strongRecOn with
    | ind fu ih3 =>
      intro v5 M1 D1 hO1 h1 hs1 hD1 hk1 hk3
      refine x_iload (dtk dt_X11_markAllOver 2 (3, .iload 5, 2) rfl) rfl ?_
      refine x_aload_n (dtk dt_X11_markAllOver 3 (5, .aload_n 1, 1) rfl) rfl ?_
      refine fg_X11_117 rfl (dtk dt_X11_markAllOver 4 (6, .getfield 117, 3) rfl) hQ.k hQ.c (hQ.so hg hap hs1).n ?_
      refine x_icmp_ge (tgt := 130) (dtk dt_X11_markAllOver 5 (9, .if_icmp .ge 121, 3) rfl) (by decide) (fun c9 => ?_) (fun c9 => ?_)
      · skip
        exact ru_v (dtk dt_X11_markAllOver 64 (130, .return_, 1) rfl) rfl hs1 ⟨D1, hO1, fun s t s0 s1 t0 t1 => by (rw [hD1 s t s0 s1 t0 t1, show v5 = m2 by omega]), hk1⟩
      · skip
        refine x_iconst (v := 0) ⟨by decide, by decide⟩ (dtk dt_X11_markAllOver 6 (12, .iconst 0, 1) rfl) ?_
        refine x_istore (dtk dt_X11_markAllOver 7 (13, .istore 6, 2) rfl) (by decide) ?_
        have L15 : ∀ (fu : Nat) (v6 : Int) (M2 : MM) (D2 : Int → Int), (OB K M2 p ci nm m D2) → (0 ≤ v6 ∧ v6 ≤ m3) → (so p M M2) → (∀ s t, 0 ≤ s → s < m → 0 ≤ t → t < m → rel D2 s t = ((rel d s t || dbX v5 m3 (fun v w => (decide (x = v) || rel e x v) && (decide (y = w) || rel e3 y w) && (decide (x ≠ v) || decide (y ≠ w))) (fun _ _ => x * m3 + y) (fun v w => v * m3 + w) s t) || dbR v6 v5 (fun v w => (decide (x = v) || rel e x v) && (decide (y = w) || rel e3 y w) && (decide (x ≠ v) || decide (y ≠ w))) (fun _ _ => x * m3 + y) (fun v w => v * m3 + w) s t)) → (∀ y, m ≤ y → y < 10 → D2 y = d y) → (m3 - v6).toNat = fu → MW G mi_X11_markAllOver (rmd 5 0 0) (MZ G (UQ (so p) none n K M (fun M' => ∃ D, OB K M' p ci nm m D ∧ (∀ s t, 0 ≤ s → s < m → 0 ≤ t → t < m → rel D s t = (rel d s t || dbX m2 m3 (fun v w => (decide (x = v) || rel e x v) && (decide (y = w) || rel e3 y w) && (decide (x ≠ v) || decide (y ≠ w))) (fun _ _ => x * m3 + y) (fun v w => v * m3 + w) s t)) ∧ (∀ y, m ≤ y → y < 10 → D y = d y))) 0 0) (0, 0) 15 [(0, (1, p)), (1, (1, q)), (2, (1, r)), (3, (0, x)), (4, (0, y)), (5, (0, v5)), (6, (0, v6))] [] n K (M2) := by
          intro fu
          induction fu using Nat.strongRecOn with
          | ind fu ih15 =>
            intro v6 M2 D2 hO2 h3 hs2 hD2 hk2 hk15
            refine x_iload (dtk dt_X11_markAllOver 8 (15, .iload 6, 2) rfl) rfl ?_
            refine x_aload_n (dtk dt_X11_markAllOver 9 (17, .aload_n 2, 1) rfl) rfl ?_
            refine fg_X11_117 rfl (dtk dt_X11_markAllOver 10 (18, .getfield 117, 3) rfl) hS.k hS.c (hS.so hg hap2 hs2).n ?_
            refine x_icmp_ge (tgt := 124) (dtk dt_X11_markAllOver 11 (21, .if_icmp .ge 103, 3) rfl) (by decide) (fun c21 => ?_) (fun c21 => ?_)
            · skip
              refine y_iinc (dtk dt_X11_markAllOver 62 (124, .iinc 5 1, 3) rfl) rfl (by decide) ⟨by omega, by omega⟩ ?_
              refine x_goto (tgt := 3) (dtk dt_X11_markAllOver 63 (127, .goto (-124), 3) rfl) (by decide) ?_
              refine MW.sub [1, 2, 3, 4, 5, 0] rfl ?_
              exact ih3 _ (by omega) _ _ _ hO2 (by omega) hs2 (fun s t s0 s1 t0 t1 => db_row (q2 := m3) (P := (fun v w => (decide (x = v) || rel e x v) && (decide (y = w) || rel e3 y w) && (decide (x ≠ v) || decide (y ≠ w)))) (g := (fun _ _ => x * m3 + y)) (k := (fun v w => v * m3 + w)) (A := fun s t => rel d s t) h1.1 (by rw [show v6 = m3 by omega] at hD2; exact hD2 s t s0 s1 t0 t1)) hk2 rfl
            · skip
              have J45_14 : ∀ (j1 : Bool), (j1 = (decide (x = v5) || rel e x v5)) → MW G mi_X11_markAllOver (rmd 5 0 0) (MZ G (UQ (so p) none n K M (fun M' => ∃ D, OB K M' p ci nm m D ∧ (∀ s t, 0 ≤ s → s < m → 0 ≤ t → t < m → rel D s t = (rel d s t || dbX m2 m3 (fun v w => (decide (x = v) || rel e x v) && (decide (y = w) || rel e3 y w) && (decide (x ≠ v) || decide (y ≠ w))) (fun _ _ => x * m3 + y) (fun v w => v * m3 + w) s t)) ∧ (∀ y, m ≤ y → y < 10 → D y = d y))) 0 0) (0, 0) 45 [(0, (1, p)), (1, (1, q)), (2, (1, r)), (3, (0, x)), (4, (0, y)), (5, (0, v5)), (6, (0, v6))] [(0, B j1)] n K (M2) := by
                intro j1 hj1
                refine x_istore (dtk dt_X11_markAllOver 23 (45, .istore 7, 2) rfl) (by decide) ?_
                have J70_16 : ∀ (j2 : Bool), (j2 = (decide (y = v6) || rel e3 y v6)) → MW G mi_X11_markAllOver (rmd 5 0 0) (MZ G (UQ (so p) none n K M (fun M' => ∃ D, OB K M' p ci nm m D ∧ (∀ s t, 0 ≤ s → s < m → 0 ≤ t → t < m → rel D s t = (rel d s t || dbX m2 m3 (fun v w => (decide (x = v) || rel e x v) && (decide (y = w) || rel e3 y w) && (decide (x ≠ v) || decide (y ≠ w))) (fun _ _ => x * m3 + y) (fun v w => v * m3 + w) s t)) ∧ (∀ y, m ≤ y → y < 10 → D y = d y))) 0 0) (0, 0) 70 [(0, (1, p)), (1, (1, q)), (2, (1, r)), (3, (0, x)), (4, (0, y)), (5, (0, v5)), (6, (0, v6)), (7, (0, B (j1)))] [(0, B j2)] n K (M2) := by
                  intro j2 hj2
                  refine x_istore (dtk dt_X11_markAllOver 35 (70, .istore 8, 2) rfl) (by decide) ?_
                  refine x_iload (dtk dt_X11_markAllOver 36 (72, .iload 7, 2) rfl) rfl ?_
                  refine x_if_eqB (tgt := 118) (dtk dt_X11_markAllOver 37 (74, .ifCond .eq 44, 3) rfl) (by decide) (fun c74 => ?_) (fun c74 => ?_)
                  · skip
                    have hPf : (fun v w => (decide (x = v) || rel e x v) && (decide (y = w) || rel e3 y w) && (decide (x ≠ v) || decide (y ≠ w))) v5 v6 = false := by (show (_ && _ && _) = false; rw [← hj1, c74]; rfl)
                    refine y_iinc (dtk dt_X11_markAllOver 60 (118, .iinc 6 1, 3) rfl) rfl (by decide) ⟨by omega, by omega⟩ ?_
                    refine x_goto (tgt := 15) (dtk dt_X11_markAllOver 61 (121, .goto (-106), 3) rfl) (by decide) ?_
                    refine MW.sub [2, 3, 4, 5, 6, 7, 0] rfl ?_
                    exact ih15 _ (by omega) _ _ _ (by first | exact hE | exact hO2) (by omega) hs2 (fun s t s0 s1 t0 t1 => by first | exact db_no (P := (fun v w => (decide (x = v) || rel e x v) && (decide (y = w) || rel e3 y w) && (decide (x ≠ v) || decide (y ≠ w)))) (g := (fun _ _ => x * m3 + y)) (k := (fun v w => v * m3 + w)) (A := (fun s t => rel d s t || dbX v5 m3 (fun v w => (decide (x = v) || rel e x v) && (decide (y = w) || rel e3 y w) && (decide (x ≠ v) || decide (y ≠ w))) (fun _ _ => x * m3 + y) (fun v w => v * m3 + w) s t)) (by omega) hPf (hD2 s t s0 s1 t0 t1) | exact db_mk (P := (fun v w => (decide (x = v) || rel e x v) && (decide (y = w) || rel e3 y w) && (decide (x ≠ v) || decide (y ≠ w)))) (g := (fun _ _ => x * m3 + y)) (k := (fun v w => v * m3 + w)) (A := (fun s t => rel d s t || dbX v5 m3 (fun v w => (decide (x = v) || rel e x v) && (decide (y = w) || rel e3 y w) && (decide (x ≠ v) || decide (y ≠ w))) (fun _ _ => x * m3 + y) (fun v w => v * m3 + w) s t)) hO2.ok (by omega) hPt hix hiv s0 (hD2 s t s0 s1 t0 t1)) (fun y y0 y1 => by first | exact hk2 y y0 y1 | (rw [mrk_o (by omega)]; exact hk2 y y0 y1)) rfl
                  · skip
                    refine x_iload (dtk dt_X11_markAllOver 38 (77, .iload 8, 2) rfl) rfl ?_
                    refine x_if_eqB (tgt := 118) (dtk dt_X11_markAllOver 39 (79, .ifCond .eq 39, 3) rfl) (by decide) (fun c79 => ?_) (fun c79 => ?_)
                    · skip
                      have hPf : (fun v w => (decide (x = v) || rel e x v) && (decide (y = w) || rel e3 y w) && (decide (x ≠ v) || decide (y ≠ w))) v5 v6 = false := by (show (_ && _ && _) = false; rw [← hj2, c79]; simp)
                      refine y_iinc (dtk dt_X11_markAllOver 60 (118, .iinc 6 1, 3) rfl) rfl (by decide) ⟨by omega, by omega⟩ ?_
                      refine x_goto (tgt := 15) (dtk dt_X11_markAllOver 61 (121, .goto (-106), 3) rfl) (by decide) ?_
                      refine MW.sub [2, 3, 4, 5, 6, 7, 0] rfl ?_
                      exact ih15 _ (by omega) _ _ _ (by first | exact hE | exact hO2) (by omega) hs2 (fun s t s0 s1 t0 t1 => by first | exact db_no (P := (fun v w => (decide (x = v) || rel e x v) && (decide (y = w) || rel e3 y w) && (decide (x ≠ v) || decide (y ≠ w)))) (g := (fun _ _ => x * m3 + y)) (k := (fun v w => v * m3 + w)) (A := (fun s t => rel d s t || dbX v5 m3 (fun v w => (decide (x = v) || rel e x v) && (decide (y = w) || rel e3 y w) && (decide (x ≠ v) || decide (y ≠ w))) (fun _ _ => x * m3 + y) (fun v w => v * m3 + w) s t)) (by omega) hPf (hD2 s t s0 s1 t0 t1) | exact db_mk (P := (fun v w => (decide (x = v) || rel e x v) && (decide (y = w) || rel e3 y w) && (decide (x ≠ v) || decide (y ≠ w)))) (g := (fun _ _ => x * m3 + y)) (k := (fun v w => v * m3 + w)) (A := (fun s t => rel d s t || dbX v5 m3 (fun v w => (decide (x = v) || rel e x v) && (decide (y = w) || rel e3 y w) && (decide (x ≠ v) || decide (y ≠ w))) (fun _ _ => x * m3 + y) (fun v w => v * m3 + w) s t)) hO2.ok (by omega) hPt hix hiv s0 (hD2 s t s0 s1 t0 t1)) (fun y y0 y1 => by first | exact hk2 y y0 y1 | (rw [mrk_o (by omega)]; exact hk2 y y0 y1)) rfl
                    · skip
                      have J95_22 : ((decide (x ≠ v5) || decide (y ≠ v6)) = true) → MW G mi_X11_markAllOver (rmd 5 0 0) (MZ G (UQ (so p) none n K M (fun M' => ∃ D, OB K M' p ci nm m D ∧ (∀ s t, 0 ≤ s → s < m → 0 ≤ t → t < m → rel D s t = (rel d s t || dbX m2 m3 (fun v w => (decide (x = v) || rel e x v) && (decide (y = w) || rel e3 y w) && (decide (x ≠ v) || decide (y ≠ w))) (fun _ _ => x * m3 + y) (fun v w => v * m3 + w) s t)) ∧ (∀ y, m ≤ y → y < 10 → D y = d y))) 0 0) (0, 0) 95 [(0, (1, p)), (1, (1, q)), (2, (1, r)), (3, (0, x)), (4, (0, y)), (5, (0, v5)), (6, (0, v6)), (7, (0, B (j1))), (8, (0, B (j2)))] [] n K (M2) := by
                        intro  hj3
                        have hiv := idx_lt (x := v5) (y := v6) (a := m2) (b := m3) ⟨h1.1, by omega⟩ ⟨h3.1, by omega⟩
                        rw [hmm] at hiv
                        have hPt : (fun v w => (decide (x = v) || rel e x v) && (decide (y = w) || rel e3 y w) && (decide (x ≠ v) || decide (y ≠ w))) v5 v6 = true := by (show (_ && _ && _) = true; rw [← hj1, ← hj2, c74, c79, hj3]; rfl)
                        refine x_aload_n (dtk dt_X11_markAllOver 46 (95, .aload_n 0, 1) rfl) rfl ?_
                        refine x_iload_n (dtk dt_X11_markAllOver 47 (96, .iload_n 3, 1) rfl) rfl ?_
                        refine x_aload_n (dtk dt_X11_markAllOver 48 (97, .aload_n 2, 1) rfl) rfl ?_
                        refine fg_X11_117 rfl (dtk dt_X11_markAllOver 49 (98, .getfield 117, 3) rfl) hS.k hS.c (hS.so hg hap2 hs2).n ?_
                        refine y_imul (dtk dt_X11_markAllOver 50 (101, .imul, 1) rfl) ⟨by have z := mul_b hx.1 hx.2 hsz2.2 hsz3; omega, by have z := mul_b hx.1 hx.2 hsz2.2 hsz3; omega⟩ ?_
                        refine x_iload (dtk dt_X11_markAllOver 51 (102, .iload 4, 2) rfl) rfl ?_
                        refine y_iadd (dtk dt_X11_markAllOver 52 (104, .iadd, 1) rfl) ⟨by have z := mul_b hx.1 hx.2 hsz2.2 hsz3; omega, by have z := mul_b hx.1 hx.2 hsz2.2 hsz3; omega⟩ ?_
                        refine x_iload (dtk dt_X11_markAllOver 53 (105, .iload 5, 2) rfl) rfl ?_
                        refine x_aload_n (dtk dt_X11_markAllOver 54 (107, .aload_n 2, 1) rfl) rfl ?_
                        refine fg_X11_117 rfl (dtk dt_X11_markAllOver 55 (108, .getfield 117, 3) rfl) hS.k hS.c (hS.so hg hap2 hs2).n ?_
                        refine y_imul (dtk dt_X11_markAllOver 56 (111, .imul, 1) rfl) ⟨by have z := mul_b h1.1 (show v5 < m2 by omega) hsz2.2 hsz3; omega, by have z := mul_b h1.1 (show v5 < m2 by omega) hsz2.2 hsz3; omega⟩ ?_
                        refine x_iload (dtk dt_X11_markAllOver 57 (112, .iload 6, 2) rfl) rfl ?_
                        refine y_iadd (dtk dt_X11_markAllOver 58 (114, .iadd, 1) rfl) ⟨by have z := mul_b h1.1 (show v5 < m2 by omega) hsz2.2 hsz3; omega, by have z := mul_b h1.1 (show v5 < m2 by omega) hsz2.2 hsz3; omega⟩ ?_
                        refine kc_X11_127 rfl (dtk dt_X11_markAllOver 59 (115, .invokevirtual 127, 3) rfl) (c_X4_mark (G := G)  hO2 (by omega) (by omega)) rfl rfl hO2.k hO2.c (fitR (by decide) (by decide)) (Nat.le_of_ble_eq_true rfl) (uqK (fun M115_1 hs115_1 hE115_1 => ?_))
                        have hE := hE115_1
                        refine y_iinc (dtk dt_X11_markAllOver 60 (118, .iinc 6 1, 3) rfl) rfl (by decide) ⟨by omega, by omega⟩ ?_
                        refine x_goto (tgt := 15) (dtk dt_X11_markAllOver 61 (121, .goto (-106), 3) rfl) (by decide) ?_
                        refine MW.sub [1, 2, 3, 4, 5, 6, 0] rfl ?_
                        exact ih15 _ (by omega) _ _ _ (by first | exact hE | exact hO2) (by omega) (hs2.tr hs115_1) (fun s t s0 s1 t0 t1 => by first | exact db_no (P := (fun v w => (decide (x = v) || rel e x v) && (decide (y = w) || rel e3 y w) && (decide (x ≠ v) || decide (y ≠ w)))) (g := (fun _ _ => x * m3 + y)) (k := (fun v w => v * m3 + w)) (A := (fun s t => rel d s t || dbX v5 m3 (fun v w => (decide (x = v) || rel e x v) && (decide (y = w) || rel e3 y w) && (decide (x ≠ v) || decide (y ≠ w))) (fun _ _ => x * m3 + y) (fun v w => v * m3 + w) s t)) (by omega) hPf (hD2 s t s0 s1 t0 t1) | exact db_mk (P := (fun v w => (decide (x = v) || rel e x v) && (decide (y = w) || rel e3 y w) && (decide (x ≠ v) || decide (y ≠ w)))) (g := (fun _ _ => x * m3 + y)) (k := (fun v w => v * m3 + w)) (A := (fun s t => rel d s t || dbX v5 m3 (fun v w => (decide (x = v) || rel e x v) && (decide (y = w) || rel e3 y w) && (decide (x ≠ v) || decide (y ≠ w))) (fun _ _ => x * m3 + y) (fun v w => v * m3 + w) s t)) hO2.ok (by omega) hPt hix hiv s0 (hD2 s t s0 s1 t0 t1)) (fun y y0 y1 => by first | exact hk2 y y0 y1 | (rw [mrk_o (by omega)]; exact hk2 y y0 y1)) rfl
                      refine x_iload_n (dtk dt_X11_markAllOver 40 (82, .iload_n 3, 1) rfl) rfl ?_
                      refine x_iload (dtk dt_X11_markAllOver 41 (83, .iload 5, 2) rfl) rfl ?_
                      refine x_icmp_ne (tgt := 95) (dtk dt_X11_markAllOver 42 (85, .if_icmp .ne 10, 3) rfl) (by decide) (fun c85 => ?_) (fun c85 => ?_)
                      · skip
                        refine MW.sub [1, 2, 3, 4, 5, 6, 7, 8, 0] rfl ?_
                        exact J95_22  (by first | (rw [decide_eq_true c85]; rfl) | (rw [decide_eq_true c92, Bool.or_true]))
                      · skip
                        refine x_iload (dtk dt_X11_markAllOver 43 (88, .iload 4, 2) rfl) rfl ?_
                        refine x_iload (dtk dt_X11_markAllOver 44 (90, .iload 6, 2) rfl) rfl ?_
                        refine x_icmp_eq (tgt := 118) (dtk dt_X11_markAllOver 45 (92, .if_icmp .eq 26, 3) rfl) (by decide) (fun c92 => ?_) (fun c92 => ?_)
                        · skip
                          have hPf : (fun v w => (decide (x = v) || rel e x v) && (decide (y = w) || rel e3 y w) && (decide (x ≠ v) || decide (y ≠ w))) v5 v6 = false := by (show (_ && _ && _) = false; rw [decide_eq_false (show ¬ x ≠ v5 by omega), decide_eq_false (show ¬ y ≠ v6 by omega)]; simp)
                          refine y_iinc (dtk dt_X11_markAllOver 60 (118, .iinc 6 1, 3) rfl) rfl (by decide) ⟨by omega, by omega⟩ ?_
                          refine x_goto (tgt := 15) (dtk dt_X11_markAllOver 61 (121, .goto (-106), 3) rfl) (by decide) ?_
                          refine MW.sub [2, 3, 4, 5, 6, 7, 0] rfl ?_
                          exact ih15 _ (by omega) _ _ _ (by first | exact hE | exact hO2) (by omega) hs2 (fun s t s0 s1 t0 t1 => by first | exact db_no (P := (fun v w => (decide (x = v) || rel e x v) && (decide (y = w) || rel e3 y w) && (decide (x ≠ v) || decide (y ≠ w)))) (g := (fun _ _ => x * m3 + y)) (k := (fun v w => v * m3 + w)) (A := (fun s t => rel d s t || dbX v5 m3 (fun v w => (decide (x = v) || rel e x v) && (decide (y = w) || rel e3 y w) && (decide (x ≠ v) || decide (y ≠ w))) (fun _ _ => x * m3 + y) (fun v w => v * m3 + w) s t)) (by omega) hPf (hD2 s t s0 s1 t0 t1) | exact db_mk (P := (fun v w => (decide (x = v) || rel e x v) && (decide (y = w) || rel e3 y w) && (decide (x ≠ v) || decide (y ≠ w)))) (g := (fun _ _ => x * m3 + y)) (k := (fun v w => v * m3 + w)) (A := (fun s t => rel d s t || dbX v5 m3 (fun v w => (decide (x = v) || rel e x v) && (decide (y = w) || rel e3 y w) && (decide (x ≠ v) || decide (y ≠ w))) (fun _ _ => x * m3 + y) (fun v w => v * m3 + w) s t)) hO2.ok (by omega) hPt hix hiv s0 (hD2 s t s0 s1 t0 t1)) (fun y y0 y1 => by first | exact hk2 y y0 y1 | (rw [mrk_o (by omega)]; exact hk2 y y0 y1)) rfl
                        · skip
                          refine MW.sub [1, 2, 3, 4, 5, 6, 7, 8, 0] rfl ?_
                          exact J95_22  (by first | (rw [decide_eq_true c85]; rfl) | (rw [decide_eq_true c92, Bool.or_true]))
                refine x_iload (dtk dt_X11_markAllOver 24 (47, .iload 4, 2) rfl) rfl ?_
                refine x_iload (dtk dt_X11_markAllOver 25 (49, .iload 6, 2) rfl) rfl ?_
                refine x_icmp_eq (tgt := 65) (dtk dt_X11_markAllOver 26 (51, .if_icmp .eq 14, 3) rfl) (by decide) (fun c51 => ?_) (fun c51 => ?_)
                · skip
                  refine x_iconst (v := 1) ⟨by decide, by decide⟩ (dtk dt_X11_markAllOver 32 (65, .iconst 1, 1) rfl) ?_
                  refine x_goto (tgt := 70) (dtk dt_X11_markAllOver 33 (66, .goto 4, 3) rfl) (by decide) ?_
                  refine MW.sub [1, 2, 3, 4, 5, 6, 7, 0] rfl ?_
                  exact J70_16 true (by simp_all)
                · skip
                  refine x_aload_n (dtk dt_X11_markAllOver 27 (54, .aload_n 2, 1) rfl) rfl ?_
                  refine x_iload (dtk dt_X11_markAllOver 28 (55, .iload 4, 2) rfl) rfl ?_
                  refine x_iload (dtk dt_X11_markAllOver 29 (57, .iload 6, 2) rfl) rfl ?_
                  refine kc_X11_98 rfl (dtk dt_X11_markAllOver 30 (59, .invokevirtual 98, 3) rfl) (c_X4_isBelow (G := G)  (hS.so hg hap2 hs2) (by omega) (by omega)) rfl rfl hS.k hS.c (fitR (by decide) (by decide)) (Nat.le_of_ble_eq_true rfl) (pqK ?_)
                  refine x_if_eqB (tgt := 69) (dtk dt_X11_markAllOver 31 (62, .ifCond .eq 7, 3) rfl) (by decide) (fun c62 => ?_) (fun c62 => ?_)
                  · skip
                    refine x_iconst (v := 0) ⟨by decide, by decide⟩ (dtk dt_X11_markAllOver 34 (69, .iconst 0, 1) rfl) ?_
                    refine MW.sub [1, 2, 3, 4, 5, 6, 7, 0] rfl ?_
                    exact J70_16 false (by simp_all)
                  · skip
                    refine x_iconst (v := 1) ⟨by decide, by decide⟩ (dtk dt_X11_markAllOver 32 (65, .iconst 1, 1) rfl) ?_
                    refine x_goto (tgt := 70) (dtk dt_X11_markAllOver 33 (66, .goto 4, 3) rfl) (by decide) ?_
                    refine MW.sub [1, 2, 3, 4, 5, 6, 7, 0] rfl ?_
                    exact J70_16 true (by simp_all)
              refine x_iload_n (dtk dt_X11_markAllOver 12 (24, .iload_n 3, 1) rfl) rfl ?_
              refine x_iload (dtk dt_X11_markAllOver 13 (25, .iload 5, 2) rfl) rfl ?_
              refine x_icmp_eq (tgt := 40) (dtk dt_X11_markAllOver 14 (27, .if_icmp .eq 13, 3) rfl) (by decide) (fun c27 => ?_) (fun c27 => ?_)
              · skip
                refine x_iconst (v := 1) ⟨by decide, by decide⟩ (dtk dt_X11_markAllOver 20 (40, .iconst 1, 1) rfl) ?_
                refine x_goto (tgt := 45) (dtk dt_X11_markAllOver 21 (41, .goto 4, 3) rfl) (by decide) ?_
                refine MW.sub [0, 1, 2, 3, 4, 5, 6] rfl ?_
                exact J45_14 true (by simp_all)
              · skip
                refine x_aload_n (dtk dt_X11_markAllOver 15 (30, .aload_n 1, 1) rfl) rfl ?_
                refine x_iload_n (dtk dt_X11_markAllOver 16 (31, .iload_n 3, 1) rfl) rfl ?_
                refine x_iload (dtk dt_X11_markAllOver 17 (32, .iload 5, 2) rfl) rfl ?_
                refine kc_X11_98 rfl (dtk dt_X11_markAllOver 18 (34, .invokevirtual 98, 3) rfl) (c_X4_isBelow (G := G)  (hQ.so hg hap hs2) (by omega) (by omega)) rfl rfl hQ.k hQ.c (fitR (by decide) (by decide)) (Nat.le_of_ble_eq_true rfl) (pqK ?_)
                refine x_if_eqB (tgt := 44) (dtk dt_X11_markAllOver 19 (37, .ifCond .eq 7, 3) rfl) (by decide) (fun c37 => ?_) (fun c37 => ?_)
                · skip
                  refine x_iconst (v := 0) ⟨by decide, by decide⟩ (dtk dt_X11_markAllOver 22 (44, .iconst 0, 1) rfl) ?_
                  refine MW.sub [0, 1, 2, 3, 4, 5, 6] rfl ?_
                  exact J45_14 false (by simp_all)
                · skip
                  refine x_iconst (v := 1) ⟨by decide, by decide⟩ (dtk dt_X11_markAllOver 20 (40, .iconst 1, 1) rfl) ?_
                  refine x_goto (tgt := 45) (dtk dt_X11_markAllOver 21 (41, .goto 4, 3) rfl) (by decide) ?_
                  refine MW.sub [0, 1, 2, 3, 4, 5, 6] rfl ?_
                  exact J45_14 true (by simp_all)
        refine MW.sub [1, 2, 3, 4, 5, 6, 0] rfl ?_
        exact L15 _ _ _ _ hO1 (by omega) hs1 (fun s t s0 s1 t0 t1 => by rw [hD1 s t s0 s1 t0 t1, dbR_0, Bool.or_false]) hk1 rfl
  refine MW.sub [1, 2, 3, 4, 5, 0] rfl ?_
  exact L3 _ _ _ _ hO (by omega) so.rf (fun s t _ _ _ _ => by rw [dbX_0, Bool.or_false]) (fun y _ _ => rfl) rfl
set_option maxRecDepth 100000 in
set_option maxHeartbeats 4000000 in
theorem c_X11_times {G : GG} {n : Nat} {K : KK} {M : MM} {o p : Int} (hL : LK K M) (hn : 55 ≤ n ∧ n < 50000) : MC G mi_X11_times 6 3 25 [(1, 0), (0, o), (0, p)] n K M (makQ n K M (((isOr M o = true) ∧ (isOr M p = true)) ∧ M 36 0 < 8 ∧ M 38 o * M 38 p ≤ 10) (if (isOr M o = true) ∧ (isOr M p = true) then 2 else 1) 10 (M 38 o * M 38 p) (fun s t => exB (M 38 o) (fun a => exB (M 38 p) (fun b => dbX (M 38 o) (M 38 p) (fun v w => (decide (a = v) || rel (dM M o) a v) && (decide (b = w) || rel (dM M p) b w) && (decide (a ≠ v) || decide (b ≠ w))) (fun _ _ => a * M 38 p + b) (fun v w => v * M 38 p + w) s t)))) := by
  refine MC.intro (lc := [(0, (1, 0)), (1, (0, o)), (2, (0, p))]) (by decide) rfl (by simp [Nat.ble]) (Nat.le_of_ble_eq_true rfl) rfl (fun hMR => ?_)
  have hc8 := hL.c8
  refine MW.factK (fun hf => ?_)
  refine x_aload_n (dtk dt_X11_times 0 (0, .aload_n 0, 1) rfl) rfl ?_
  refine x_iload_n (dtk dt_X11_times 1 (1, .iload_n 1, 1) rfl) rfl ?_
  by_cases hsp2_0 : 0 ≤ o ∧ o < M 36 0
  · skip
    refine kc_X11_86 rfl (dtk dt_X11_times 2 (2, .invokevirtual 86, 3) rfl) (c_X11_find (G := G)  hL.wf (by rw [hL.cnt]; exact hsp2_0) (by rw [hL.cnt]; exact hL.c8.2)) rfl rfl (wk_0 hL.wf) (fitG (by decide) (by decide) (by decide) (by decide)) (Nat.le_of_ble_eq_true rfl) (pqK ?_)
    have hO := hL.ob hsp2_0
    have hOg := hO.ge
    have hOs := hO.sz
    have hOP := hL.po hsp2_0
    have hOi := isOr_y hsp2_0
    have hOlt := hO.lt hf
    refine x_astore_n (dtk dt_X11_times 3 (5, .astore_n 3, 1) rfl) (by decide) ?_
    refine x_aload_n (dtk dt_X11_times 4 (6, .aload_n 0, 1) rfl) rfl ?_
    refine x_iload_n (dtk dt_X11_times 5 (7, .iload_n 2, 1) rfl) rfl ?_
    by_cases hsp8_0 : 0 ≤ p ∧ p < M 36 0
    · skip
      refine kc_X11_86 rfl (dtk dt_X11_times 6 (8, .invokevirtual 86, 3) rfl) (c_X11_find (G := G)  hL.wf (by rw [hL.cnt]; exact hsp8_0) (by rw [hL.cnt]; exact hL.c8.2)) rfl rfl (wk_0 hO.wf) (fitG (by decide) (by decide) (by decide) (by decide)) (Nat.le_of_ble_eq_true rfl) (pqK ?_)
      have hQ := hL.ob hsp8_0
      have hQg := hQ.ge
      have hQs := hQ.sz
      have hQP := hL.po hsp8_0
      have hQi := isOr_y hsp8_0
      have hQlt := hQ.lt hf
      refine x_astore (dtk dt_X11_times 7 (11, .astore 4, 2) rfl) (by decide) ?_
      refine x_aload_n (dtk dt_X11_times 8 (13, .aload_n 3, 1) rfl) rfl ?_
      refine x_ifnull (tgt := 22) (dtk dt_X11_times 9 (14, .ifnull 8, 3) rfl) (by decide) (fun c14 => ?_) (fun c14 => ?_)
      · exact absurd c14 (by omega)
      refine x_aload (dtk dt_X11_times 10 (17, .aload 4, 2) rfl) rfl ?_
      refine x_ifnonnull (tgt := 28) (dtk dt_X11_times 11 (19, .ifnonnull 9, 3) rfl) (by decide) (fun c19 => ?_) (fun c19 => ?_)
      rotate_left
      · exact absurd c19 (by omega)
      have hpr := mul_b2 hOs hQs
      refine x_aload_n (dtk dt_X11_times 16 (28, .aload_n 0, 1) rfl) rfl ?_
      refine x_aload_n (dtk dt_X11_times 17 (29, .aload_n 3, 1) rfl) rfl ?_
      refine fg_X11_117 rfl (dtk dt_X11_times 18 (30, .getfield 117, 3) rfl) hO.k hO.c hO.n ?_
      refine x_aload (dtk dt_X11_times 19 (33, .aload 4, 2) rfl) rfl ?_
      refine fg_X11_117 rfl (dtk dt_X11_times 20 (35, .getfield 117, 3) rfl) hQ.k hQ.c hQ.n ?_
      refine y_imul (dtk dt_X11_times 21 (38, .imul, 1) rfl) ⟨by omega, by omega⟩ ?_
      refine kc_X11_75 rfl (dtk dt_X11_times 22 (39, .invokevirtual 75, 3) rfl) (c_X11_hasRoom (G := G)  hL.wf) rfl rfl (wk_0 hO.wf) (fitG (by decide) (by decide) (by decide) (by decide)) (Nat.le_of_ble_eq_true rfl) (pqK ?_)
      refine x_if_neB (tgt := 51) (dtk dt_X11_times 23 (42, .ifCond .ne 9, 3) rfl) (by decide) (fun c42 => ?_) (fun c42 => ?_)
      · skip
        have hcc : ((isOr M o = true) ∧ (isOr M p = true)) ∧ M 36 0 < 8 ∧ M 38 o * M 38 p ≤ 10 := ⟨⟨hOi, hQi⟩, by (have hz := hL.cnt; simp at c42; omega)⟩
        refine x_new (ci := 10) (dtk dt_X11_times 28 (51, .new 133, 3) rfl) cl_10 cd_10 w491 w492 w96 (by omega) ⟨by decide, by decide⟩ ?_
        have hw1 : WF (upK K ((n : Nat) : Int) (0, 10)) (zM M ((n : Nat) : Int) (fT 10)) := wf_new hL.wf (by omega)
        refine x_dup rfl (dtk dt_X11_times 29 (54, .dup, 1) rfl) ?_
        refine x_aload_n (dtk dt_X11_times 30 (55, .aload_n 0, 1) rfl) rfl ?_
        refine fg_X11_15 rfl (dtk dt_X11_times 31 (56, .getfield 15, 3) rfl) (wk_0 hw1) (v := M 36 0) (by rw [zM_ne _ (by omega)]; exact hL.cnt) ?_
        refine x_aload_n (dtk dt_X11_times 32 (59, .aload_n 3, 1) rfl) rfl ?_
        refine fg_X11_117 rfl (dtk dt_X11_times 33 (60, .getfield 117, 3) rfl) (by rw [upK_ne _ _ (by omega)]; exact hO.k) hO.c (v := M 38 o) (by rw [zM_ne _ (by omega)]; exact hO.n) ?_
        refine x_aload (dtk dt_X11_times 34 (63, .aload 4, 2) rfl) rfl ?_
        refine fg_X11_117 rfl (dtk dt_X11_times 35 (65, .getfield 117, 3) rfl) (by rw [upK_ne _ _ (by omega)]; exact hQ.k) hQ.c (v := M 38 p) (by rw [zM_ne _ (by omega)]; exact hQ.n) ?_
        refine y_imul (dtk dt_X11_times 36 (68, .imul, 1) rfl) ⟨by omega, by omega⟩ ?_
        refine kc_X11_135 rfl (dtk dt_X11_times 37 (69, .invokespecial 135, 3) rfl) (c_X10_init (G := G) (p := ((n : Nat) : Int)) (ci := 10) hw1 (upK_self _ _ _) (by unfold isO; decide) (by omega) (by omega) (by omega) (by omega)) rfl rfl (by omega) (fitG (by decide) (by decide) (by decide) (by decide)) (Nat.le_of_ble_eq_true rfl) (fun rr69 n69 K69 M69 hq69 => ?_)
        obtain ⟨rfl, hn69, hK69, hO69, hl69⟩ := hq69
        replace hK69 := upK3 hK69
        replace hl69 : ∀ x : Int, x < n → M69 x = M x := fun x hx => (hl69 x hx).trans (zM_ne _ (by omega))
        have hw69 := hO69.wf
        refine x_astore (dtk dt_X11_times 38 (72, .astore 5, 2) rfl) (by decide) ?_
        refine x_iconst (v := 0) ⟨by decide, by decide⟩ (dtk dt_X11_times 39 (74, .iconst 0, 1) rfl) ?_
        refine x_istore (dtk dt_X11_times 40 (75, .istore 6, 2) rfl) (by decide) ?_
        have L77 : ∀ (fu : Nat) (v6 : Int) (M1 : MM) (D1 : Int → Int), (OB K69 M1 ((n : Nat) : Int) 10 (M 36 0) (M 38 o * M 38 p) D1) → (0 ≤ v6 ∧ v6 ≤ M 38 o) → (∀ x : Int, x < n → M1 x = M x) → (∀ s t, 0 ≤ s → s < (M 38 o * M 38 p) → 0 ≤ t → t < (M 38 o * M 38 p) → rel D1 s t = (exB v6 (fun a => exB (M 38 p) (fun b => dbX (M 38 o) (M 38 p) (fun v w => (decide (a = v) || rel (dM M o) a v) && (decide (b = w) || rel (dM M p) b w) && (decide (a ≠ v) || decide (b ≠ w))) (fun _ _ => a * M 38 p + b) (fun v w => v * M 38 p + w) s t)))) → (∀ y, (M 38 o * M 38 p) ≤ y → y < 10 → D1 y = 0) → (M 38 o - v6).toNat = fu → MW G mi_X11_times (rmd 6 3 25) (MZ G (makQ n K M (((isOr M o = true) ∧ (isOr M p = true)) ∧ M 36 0 < 8 ∧ M 38 o * M 38 p ≤ 10) (if (isOr M o = true) ∧ (isOr M p = true) then 2 else 1) 10 (M 38 o * M 38 p) (fun s t => exB (M 38 o) (fun a => exB (M 38 p) (fun b => dbX (M 38 o) (M 38 p) (fun v w => (decide (a = v) || rel (dM M o) a v) && (decide (b = w) || rel (dM M p) b w) && (decide (a ≠ v) || decide (b ≠ w))) (fun _ _ => a * M 38 p + b) (fun v w => v * M 38 p + w) s t)))) 3 25) (3, 25) 77 [(0, (1, 0)), (1, (0, o)), (2, (0, p)), (3, (1, M 1 o)), (4, (1, M 1 p)), (5, (1, ((n : Nat) : Int))), (6, (0, v6))] [] n69 K69 (M1) := by
          intro fu
          induction fu using Nat.strongRecOn with
          | ind fu ih77 =>
            intro v6 M1 D1 hO1 h1 hl1 hD1 hk1 hk77
            refine x_iload (dtk dt_X11_times 41 (77, .iload 6, 2) rfl) rfl ?_
            refine x_aload_n (dtk dt_X11_times 42 (79, .aload_n 3, 1) rfl) rfl ?_
            refine fg_X11_117 rfl (dtk dt_X11_times 43 (80, .getfield 117, 3) rfl) (hO.old (hO.lt hf) hO1.wf hK69 (fun x _ h2 => hl1 x h2)).k (hO.old (hO.lt hf) hO1.wf hK69 (fun x _ h2 => hl1 x h2)).c (hO.old (hO.lt hf) hO1.wf hK69 (fun x _ h2 => hl1 x h2)).n ?_
            refine x_icmp_ge (tgt := 123) (dtk dt_X11_times 44 (83, .if_icmp .ge 40, 3) rfl) (by decide) (fun c83 => ?_) (fun c83 => ?_)
            · skip
              refine x_aload_n (dtk dt_X11_times 61 (123, .aload_n 0, 1) rfl) rfl ?_
              refine x_aload (dtk dt_X11_times 62 (124, .aload 5, 2) rfl) rfl ?_
              refine kc_X11_82 rfl (dtk dt_X11_times 63 (126, .invokevirtual 82, 3) rfl) (c_X11_take (G := G) (p := ((n : Nat) : Int)) hO1.wf hO1.k hO1.c (by rw [hl1 0 (by omega), hL.cnt]; omega)) rfl rfl (wk_0 hw69) (fitG (by decide) (by decide) (by decide) (by decide)) (Nat.le_of_ble_eq_true rfl) (pqK ?_)
              exact x_iret (dtk dt_X11_times 64 (129, .ireturn, 1) rfl) rfl (by have hz := made_fin hL sx.rf hL.rc hf (by omega) (show n69 = n + 3 by omega) hK69 hO1 hl1; exact ⟨fun _ => ⟨by rw [hz.1], _, hz.2, fun s t s0 s1 t0 t1 => by rw [hD1 s t s0 s1 t0 t1, show v6 = M 38 o by omega], hk1⟩, fun hc => absurd hcc hc⟩)
            · skip
              refine x_iconst (v := 0) ⟨by decide, by decide⟩ (dtk dt_X11_times 45 (86, .iconst 0, 1) rfl) ?_
              refine x_istore (dtk dt_X11_times 46 (87, .istore 7, 2) rfl) (by decide) ?_
              have L89 : ∀ (fu : Nat) (v7 : Int) (M2 : MM) (D2 : Int → Int), (OB K69 M2 ((n : Nat) : Int) 10 (M 36 0) (M 38 o * M 38 p) D2) → (0 ≤ v7 ∧ v7 ≤ M 38 p) → (∀ x : Int, x < n → M2 x = M x) → (∀ s t, 0 ≤ s → s < (M 38 o * M 38 p) → 0 ≤ t → t < (M 38 o * M 38 p) → rel D2 s t = (exB v6 (fun a => exB (M 38 p) (fun b => dbX (M 38 o) (M 38 p) (fun v w => (decide (a = v) || rel (dM M o) a v) && (decide (b = w) || rel (dM M p) b w) && (decide (a ≠ v) || decide (b ≠ w))) (fun _ _ => a * M 38 p + b) (fun v w => v * M 38 p + w) s t)) || exB v7 (fun b => dbX (M 38 o) (M 38 p) (fun v w => (decide (v6 = v) || rel (dM M o) v6 v) && (decide (b = w) || rel (dM M p) b w) && (decide (v6 ≠ v) || decide (b ≠ w))) (fun _ _ => v6 * M 38 p + b) (fun v w => v * M 38 p + w) s t))) → (∀ y, (M 38 o * M 38 p) ≤ y → y < 10 → D2 y = 0) → (M 38 p - v7).toNat = fu → MW G mi_X11_times (rmd 6 3 25) (MZ G (makQ n K M (((isOr M o = true) ∧ (isOr M p = true)) ∧ M 36 0 < 8 ∧ M 38 o * M 38 p ≤ 10) (if (isOr M o = true) ∧ (isOr M p = true) then 2 else 1) 10 (M 38 o * M 38 p) (fun s t => exB (M 38 o) (fun a => exB (M 38 p) (fun b => dbX (M 38 o) (M 38 p) (fun v w => (decide (a = v) || rel (dM M o) a v) && (decide (b = w) || rel (dM M p) b w) && (decide (a ≠ v) || decide (b ≠ w))) (fun _ _ => a * M 38 p + b) (fun v w => v * M 38 p + w) s t)))) 3 25) (3, 25) 89 [(0, (1, 0)), (1, (0, o)), (2, (0, p)), (3, (1, M 1 o)), (4, (1, M 1 p)), (5, (1, ((n : Nat) : Int))), (6, (0, v6)), (7, (0, v7))] [] n69 K69 (M2) := by
                intro fu
                induction fu using Nat.strongRecOn with
                | ind fu ih89 =>
                  intro v7 M2 D2 hO2 h3 hl2 hD2 hk2 hk89
                  refine x_iload (dtk dt_X11_times 47 (89, .iload 7, 2) rfl) rfl ?_
                  refine x_aload (dtk dt_X11_times 48 (91, .aload 4, 2) rfl) rfl ?_
                  refine fg_X11_117 rfl (dtk dt_X11_times 49 (93, .getfield 117, 3) rfl) (hQ.old (hQ.lt hf) hO2.wf hK69 (fun x _ h2 => hl2 x h2)).k (hQ.old (hQ.lt hf) hO2.wf hK69 (fun x _ h2 => hl2 x h2)).c (hQ.old (hQ.lt hf) hO2.wf hK69 (fun x _ h2 => hl2 x h2)).n ?_
                  refine x_icmp_ge (tgt := 117) (dtk dt_X11_times 50 (96, .if_icmp .ge 21, 3) rfl) (by decide) (fun c96 => ?_) (fun c96 => ?_)
                  · skip
                    refine y_iinc (dtk dt_X11_times 59 (117, .iinc 6 1, 3) rfl) rfl (by decide) ⟨by omega, by omega⟩ ?_
                    refine x_goto (tgt := 77) (dtk dt_X11_times 60 (120, .goto (-43), 3) rfl) (by decide) ?_
                    refine MW.sub [1, 2, 3, 4, 5, 6, 0] rfl ?_
                    exact ih77 _ (by omega) _ _ _ hO2 (by omega) hl2 (fun s t s0 s1 t0 t1 => by rw [hD2 s t s0 s1 t0 t1, exB_s h1.1, show v7 = M 38 p by omega]) hk2 rfl
                  · skip
                    refine x_aload (dtk dt_X11_times 51 (99, .aload 5, 2) rfl) rfl ?_
                    refine x_aload_n (dtk dt_X11_times 52 (101, .aload_n 3, 1) rfl) rfl ?_
                    refine x_aload (dtk dt_X11_times 53 (102, .aload 4, 2) rfl) rfl ?_
                    refine x_iload (dtk dt_X11_times 54 (104, .iload 6, 2) rfl) rfl ?_
                    refine x_iload (dtk dt_X11_times 55 (106, .iload 7, 2) rfl) rfl ?_
                    refine kc_X11_136 rfl (dtk dt_X11_times 56 (108, .invokestatic 136, 3) rfl) (c_X11_markAllOver (G := G) (p := ((n : Nat) : Int)) hO2 (hO.old (hO.lt hf) hO2.wf hK69 (fun x _ h2 => hl2 x h2)) (hQ.old (hQ.lt hf) hO2.wf hK69 (fun x _ h2 => hl2 x h2)) (Or.inl (by omega)) (Or.inl (by omega)) (by omega) (by omega) rfl) rfl rfl (fitG (by decide) (by decide) (by decide) (by decide)) (Nat.le_of_ble_eq_true rfl) (uqK (fun M108_1 hs108_1 hE108_1 => ?_))
                    obtain ⟨D3, hO3, hD3, hk3⟩ := hE108_1
                    have hl3 : ∀ x : Int, x < n → M108_1 x = M x := fun x hx => (hs108_1 x (Or.inl hx)).trans (hl2 x hx)
                    refine y_iinc (dtk dt_X11_times 57 (111, .iinc 7 1, 3) rfl) rfl (by decide) ⟨by omega, by omega⟩ ?_
                    refine x_goto (tgt := 89) (dtk dt_X11_times 58 (114, .goto (-25), 3) rfl) (by decide) ?_
                    refine MW.sub [1, 2, 3, 4, 5, 6, 7, 0] rfl ?_
                    exact ih89 _ (by omega) _ _ _ hO3 (by omega) hl3 (fun s t s0 s1 t0 t1 => by rw [hD3 s t s0 s1 t0 t1, hD2 s t s0 s1 t0 t1, exB_s h3.1, Bool.or_assoc]) (fun y y0 y1 => (hk3 y y0 y1).trans (hk2 y y0 y1)) rfl
              refine MW.sub [1, 2, 3, 4, 5, 6, 7, 0] rfl ?_
              exact L89 _ _ _ _ hO1 (by omega) hl1 (fun s t s0 s1 t0 t1 => by rw [hD1 s t s0 s1 t0 t1, exB_0, Bool.or_false]) hk1 rfl
        refine MW.sub [4, 5, 6, 3, 2, 1, 0] rfl ?_
        exact L77 _ _ _ _ hO69 (by omega) hl69 (fun s t _ _ _ _ => rel_0 s t) (fun _ _ _ => rfl) rfl
      · skip
        have hcc : ¬ (((isOr M o = true) ∧ (isOr M p = true)) ∧ M 36 0 < 8 ∧ M 38 o * M 38 p ≤ 10) := by (have hz := hL.cnt; simp at c42; omega)
        refine x_aload_n (dtk dt_X11_times 24 (45, .aload_n 0, 1) rfl) rfl ?_
        refine x_iconst (v := 2) ⟨by decide, by decide⟩ (dtk dt_X11_times 25 (46, .iconst 2, 1) rfl) ?_
        refine kc_X11_71 rfl (dtk dt_X11_times 26 (47, .invokevirtual 71, 3) rfl) (c_X11_refuse (G := G)  hL.wf) rfl rfl (wk_0 hO.wf) (fitG (by decide) (by decide) (by decide) (by decide)) (Nat.le_of_ble_eq_true rfl) (pqK ?_)
        refine MW.widen (k1 := 3) (k2 := 25) (by decide) (by decide) ?_
        exact x_iret (dtk dt_X11_times 27 (50, .ireturn, 1) rfl) rfl ⟨fun hc => absurd hc hcc, fun _ => ⟨rfl, by (rw [if_pos ⟨hOi, hQi⟩]; exact ref_fin hL sx.rf hL.rc)⟩⟩
    refine kc_X11_86 rfl (dtk dt_X11_times 6 (8, .invokevirtual 86, 3) rfl) (c_X11_find_no (G := G)  hL.wf (by rw [hL.cnt]; exact hsp8_0)) rfl rfl (wk_0 hO.wf) (fitG (by decide) (by decide) (by decide) (by decide)) (Nat.le_of_ble_eq_true rfl) (pqK ?_)
    have hQn := isOr_n hsp8_0
    refine x_astore (dtk dt_X11_times 7 (11, .astore 4, 2) rfl) (by decide) ?_
    refine x_aload_n (dtk dt_X11_times 8 (13, .aload_n 3, 1) rfl) rfl ?_
    refine x_ifnull (tgt := 22) (dtk dt_X11_times 9 (14, .ifnull 8, 3) rfl) (by decide) (fun c14 => ?_) (fun c14 => ?_)
    · exact absurd c14 (by omega)
    refine x_aload (dtk dt_X11_times 10 (17, .aload 4, 2) rfl) rfl ?_
    refine x_ifnonnull (tgt := 28) (dtk dt_X11_times 11 (19, .ifnonnull 9, 3) rfl) (by decide) (fun c19 => ?_) (fun c19 => ?_)
    · exact absurd c19 (by decide)
    refine x_aload_n (dtk dt_X11_times 12 (22, .aload_n 0, 1) rfl) rfl ?_
    refine x_iconst (v := 1) ⟨by decide, by decide⟩ (dtk dt_X11_times 13 (23, .iconst 1, 1) rfl) ?_
    refine kc_X11_71 rfl (dtk dt_X11_times 14 (24, .invokevirtual 71, 3) rfl) (c_X11_refuse (G := G)  hL.wf) rfl rfl (wk_0 hO.wf) (fitG (by decide) (by decide) (by decide) (by decide)) (Nat.le_of_ble_eq_true rfl) (pqK ?_)
    refine MW.widen (k1 := 3) (k2 := 25) (by decide) (by decide) ?_
    exact x_iret (dtk dt_X11_times 15 (27, .ireturn, 1) rfl) rfl ⟨fun hc => absurd hc (by first | (rw [hOn]; simp; done) | (rw [hQn]; simp)), fun _ => ⟨rfl, by (rw [if_neg (by first | (rw [hOn]; simp; done) | (rw [hQn]; simp))]; exact ref_fin hL sx.rf hL.rc)⟩⟩
  refine kc_X11_86 rfl (dtk dt_X11_times 2 (2, .invokevirtual 86, 3) rfl) (c_X11_find_no (G := G)  hL.wf (by rw [hL.cnt]; exact hsp2_0)) rfl rfl (wk_0 hL.wf) (fitG (by decide) (by decide) (by decide) (by decide)) (Nat.le_of_ble_eq_true rfl) (pqK ?_)
  have hOn := isOr_n hsp2_0
  refine x_astore_n (dtk dt_X11_times 3 (5, .astore_n 3, 1) rfl) (by decide) ?_
  refine x_aload_n (dtk dt_X11_times 4 (6, .aload_n 0, 1) rfl) rfl ?_
  refine x_iload_n (dtk dt_X11_times 5 (7, .iload_n 2, 1) rfl) rfl ?_
  by_cases hsp8_0 : 0 ≤ p ∧ p < M 36 0
  · skip
    refine kc_X11_86 rfl (dtk dt_X11_times 6 (8, .invokevirtual 86, 3) rfl) (c_X11_find (G := G)  hL.wf (by rw [hL.cnt]; exact hsp8_0) (by rw [hL.cnt]; exact hL.c8.2)) rfl rfl (wk_0 hL.wf) (fitG (by decide) (by decide) (by decide) (by decide)) (Nat.le_of_ble_eq_true rfl) (pqK ?_)
    have hQ := hL.ob hsp8_0
    have hQg := hQ.ge
    have hQs := hQ.sz
    have hQP := hL.po hsp8_0
    have hQi := isOr_y hsp8_0
    have hQlt := hQ.lt hf
    refine x_astore (dtk dt_X11_times 7 (11, .astore 4, 2) rfl) (by decide) ?_
    refine x_aload_n (dtk dt_X11_times 8 (13, .aload_n 3, 1) rfl) rfl ?_
    refine x_ifnull (tgt := 22) (dtk dt_X11_times 9 (14, .ifnull 8, 3) rfl) (by decide) (fun c14 => ?_) (fun c14 => ?_)
    rotate_left
    · exact absurd c14 (by decide)
    refine x_aload_n (dtk dt_X11_times 12 (22, .aload_n 0, 1) rfl) rfl ?_
    refine x_iconst (v := 1) ⟨by decide, by decide⟩ (dtk dt_X11_times 13 (23, .iconst 1, 1) rfl) ?_
    refine kc_X11_71 rfl (dtk dt_X11_times 14 (24, .invokevirtual 71, 3) rfl) (c_X11_refuse (G := G)  hL.wf) rfl rfl (wk_0 hL.wf) (fitG (by decide) (by decide) (by decide) (by decide)) (Nat.le_of_ble_eq_true rfl) (pqK ?_)
    refine MW.widen (k1 := 3) (k2 := 25) (by decide) (by decide) ?_
    exact x_iret (dtk dt_X11_times 15 (27, .ireturn, 1) rfl) rfl ⟨fun hc => absurd hc (by first | (rw [hOn]; simp; done) | (rw [hQn]; simp)), fun _ => ⟨rfl, by (rw [if_neg (by first | (rw [hOn]; simp; done) | (rw [hQn]; simp))]; exact ref_fin hL sx.rf hL.rc)⟩⟩
  refine kc_X11_86 rfl (dtk dt_X11_times 6 (8, .invokevirtual 86, 3) rfl) (c_X11_find_no (G := G)  hL.wf (by rw [hL.cnt]; exact hsp8_0)) rfl rfl (wk_0 hL.wf) (fitG (by decide) (by decide) (by decide) (by decide)) (Nat.le_of_ble_eq_true rfl) (pqK ?_)
  have hQn := isOr_n hsp8_0
  refine x_astore (dtk dt_X11_times 7 (11, .astore 4, 2) rfl) (by decide) ?_
  refine x_aload_n (dtk dt_X11_times 8 (13, .aload_n 3, 1) rfl) rfl ?_
  refine x_ifnull (tgt := 22) (dtk dt_X11_times 9 (14, .ifnull 8, 3) rfl) (by decide) (fun c14 => ?_) (fun c14 => ?_)
  rotate_left
  · exact absurd c14 (by decide)
  refine x_aload_n (dtk dt_X11_times 12 (22, .aload_n 0, 1) rfl) rfl ?_
  refine x_iconst (v := 1) ⟨by decide, by decide⟩ (dtk dt_X11_times 13 (23, .iconst 1, 1) rfl) ?_
  refine kc_X11_71 rfl (dtk dt_X11_times 14 (24, .invokevirtual 71, 3) rfl) (c_X11_refuse (G := G)  hL.wf) rfl rfl (wk_0 hL.wf) (fitG (by decide) (by decide) (by decide) (by decide)) (Nat.le_of_ble_eq_true rfl) (pqK ?_)
  refine MW.widen (k1 := 3) (k2 := 25) (by decide) (by decide) ?_
  exact x_iret (dtk dt_X11_times 15 (27, .ireturn, 1) rfl) rfl ⟨fun hc => absurd hc (by first | (rw [hOn]; simp; done) | (rw [hQn]; simp)), fun _ => ⟨rfl, by (rw [if_neg (by first | (rw [hOn]; simp; done) | (rw [hQn]; simp))]; exact ref_fin hL sx.rf hL.rc)⟩⟩
