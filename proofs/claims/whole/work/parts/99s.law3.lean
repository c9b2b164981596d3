theorem pair_cl {n n1 : Nat} {K K1 : KK} {M M1 : MM} {o a b : Int} {r1 : Option VV} (h : LK K M) (h1 : paC n K M o a b r1 n1 K1 M1) : WF K1 M1 ∧ ∀ x : Int, 36 ≤ x → x ≤ 54 → M1 x = M x := by
  obtain ⟨rfl, rfl, h1⟩ := h1
  rcases h1 with ⟨c1, rfl, rfl⟩ | ⟨c1, c2, rfl, rfl⟩ | ⟨c1, c2, c3, rfl, N, hN, hNp, rfl⟩ | ⟨c1, c2, c3, rfl, N, hN, hNo, rfl⟩
  · exact ⟨WF.fld 0 11 rfl h.wf, fun x x0 _ => st2_ne _ (by omega)⟩
  · exact ⟨WF.fld 0 11 rfl h.wf, fun x x0 _ => st2_ne _ (by omega)⟩
  · exact ⟨WF.fld 0 11 rfl (hN.wf h.wf), fun x x0 _ => by rw [st2_ne _ (by omega)]; exact hN.1 x (by omega) (by omega)⟩
  · have hg := hNo.ge
    exact ⟨WF.fld 0 11 rfl hNo.wf, fun x x0 x1 => by rw [st2_ne _ (by omega), hN x (by omega), st2_ne _ (by omega)]⟩
/-! ===== the calls, side by side ===== -/
section SEMS
variable {n : Nat} {K : KK} {M : MM}
theorem sem_pp (h : LK K M) (hn : 55 ≤ n) {t : Nat} {v : Int} {w : Nat → KK → MM → Int} (he : w n K M = v) : SEM n K M t (PQ (some (t, v)) n K M) (fun n1 K1 M1 => PQ (some (t, w n1 K1 M1)) n1 K1 M1) := by
  rintro r1 n1 K1 M1 ⟨rfl, rfl, rfl, rfl⟩
  refine ⟨v, rfl, h.ml, ?_⟩
  rintro r2 n2 K2 M2 ⟨rfl, rfl, rfl, rfl⟩
  exact ⟨by rw [he], h, by omega, hn⟩
theorem sem_sc (h : LK K M) (hn : 55 ≤ n) {t : Nat} {v : Int} {w : Nat → KK → MM → Int} (he : ∀ M1, sx M M1 → w n K M1 = v) : SEM n K M t (UQ sx (some (t, v)) n K M (fun M' => RC K M')) (fun n1 K1 M1 => SQ (some (t, w n1 K1 M1)) n1 K1 M1 (fun _ => True)) := by
  rintro r1 n1 K1 M1 ⟨rfl, rfl, rfl, hs, hr⟩
  have h1 := hs.lk h hr
  refine ⟨v, rfl, h1.ml, ?_⟩
  rintro r2 n2 K2 M2 ⟨rfl, rfl, rfl, hs2, _⟩
  exact ⟨by rw [he M1 hs], hs2.lk h1, by omega, hn⟩
theorem sem_sp (h : LK K M) (hn : 55 ≤ n) {t : Nat} {v : Int} {w : Nat → KK → MM → Int} (he : ∀ M1, sx M M1 → w n K M1 = v) : SEM n K M t (UQ sx (some (t, v)) n K M (fun M' => RC K M')) (fun n1 K1 M1 => PQ (some (t, w n1 K1 M1)) n1 K1 M1) := by
  rintro r1 n1 K1 M1 ⟨rfl, rfl, rfl, hs, hr⟩
  have h1 := hs.lk h hr
  refine ⟨v, rfl, h1.ml, ?_⟩
  rintro r2 n2 K2 M2 ⟨rfl, rfl, rfl, rfl⟩
  exact ⟨by rw [he _ hs], h1, by omega, hn⟩
theorem sem_sd (h : LK K M) (hn : 55 ≤ n) {t : Nat} {v : Int} {w : Nat → KK → MM → Int} (he : ∀ M1, sx M M1 → w n K M1 = v) : SEM n K M t (UQ sx (some (t, v)) n K M (fun M' => RC K M')) (fun n1 K1 M1 => UQ sd (some (t, w n1 K1 M1)) n1 K1 M1 TW) := by
  rintro r1 n1 K1 M1 ⟨rfl, rfl, rfl, hs, hr⟩
  have h1 := hs.lk h hr
  refine ⟨v, rfl, h1.ml, ?_⟩
  rintro r2 n2 K2 M2 ⟨rfl, rfl, rfl, hs2, ht⟩
  exact ⟨by rw [he M1 hs], hs2.lk h1 ht, by omega, hn⟩
theorem sem_pm (h : LK K M) (hn : 55 ≤ n) {v : Int} {Mc : MM} {V : Nat → KK → MM → Int} {X : Nat → KK → MM → MM} (hl : WF K Mc ∧ ∀ x : Int, 36 ≤ x → x ≤ 54 → Mc x = M x) (hv : V n K Mc = v) (hX : LK K (X n K Mc)) : SEM n K M 0 (PQ (some (0, v)) n K Mc) (fun n1 K1 M1 => PQ (some (0, V n1 K1 M1)) n1 K1 (X n1 K1 M1)) := by
  rintro r1 n1 K1 M1 ⟨rfl, rfl, rfl, rfl⟩
  refine ⟨v, rfl, ML.of h hl.1 hl.2, ?_⟩
  rintro r2 n2 K2 M2 ⟨rfl, rfl, rfl, rfl⟩
  exact ⟨by rw [hv], hX, by omega, hn⟩
theorem sem_mk (h : LK K M) (hf : ∀ a : Int, (K a).1 ≠ 9 → 0 ≤ a ∧ a < n) (hn : 55 ≤ n) {c : Prop} {w : Int} {ci : Nat} {q k : Int} {R : Int → Int → Bool} {f : Int → Int} {V : Nat → KK → MM → Int} {X : Nat → KK → MM → MM} (hk : kci k = ci ∧ 0 ≤ k ∧ k ≤ 5) (hc : c → M 36 0 < 8 ∧ MKS q f R) (hy : ∀ n1 K1 M1, (∀ x : Int, 36 ≤ x → x ≤ 54 → M1 x = M x) → c → V n1 K1 M1 = M 36 0 ∧ X n1 K1 M1 = crM M1 k q f) (hno : ∀ n1 K1 M1, (∀ x : Int, 36 ≤ x → x ≤ 54 → M1 x = M x) → ¬ c → V n1 K1 M1 = -1 ∧ X n1 K1 M1 = st2 M1 36 12 w) : SEM n K M 0 (makQ n K M c w ci q R) (fun n1 K1 M1 => PQ (some (0, V n1 K1 M1)) n1 K1 (X n1 K1 M1)) := by
  rintro r1 n1 K1 M1 ⟨g1, g2⟩
  rcases Classical.em c with hq | hq
  · obtain ⟨rfl, hm⟩ := g1 hq
    obtain ⟨e1, e2, e3, e4⟩ := h.made hf hn hm hk (hc hq).1 (hc hq).2
    refine ⟨M 36 0, rfl, ML.of h e3 e4, ?_⟩
    rintro r2 n2 K2 M2 ⟨rfl, rfl, rfl, rfl⟩
    obtain ⟨a1, a2⟩ := hy n2 K2 M1 e4 hq
    exact ⟨by rw [a1], by rw [a2]; exact e2, by omega, by omega⟩
  · obtain ⟨rfl, hm⟩ := g2 hq
    obtain ⟨rfl, rfl, e2, e3, e4⟩ := h.ref hm
    refine ⟨-1, rfl, ML.of h e3 e4, ?_⟩
    rintro r2 n2 K2 M2 ⟨rfl, rfl, rfl, rfl⟩
    obtain ⟨a1, a2⟩ := hno n2 K2 M1 e4 hq
    exact ⟨by rw [a1], by rw [a2]; exact e2, by omega, by omega⟩
theorem sem_pair (h : LK K M) (hn : 55 ≤ n) {o a b : Int} : SEM n K M 0 (paC n K M o a b) (fun n1 K1 M1 => paQ M1 o a b n1 K1) := by
  intro r1 n1 K1 M1 h1
  have key := fun (r2 : Option VV) (n2 : Nat) (K2 : KK) (M2 : MM) (h2 : paQ M1 o a b n1 K1 r2 n2 K2 M2) => h.pair h1 (fun _ => h2)
  have hv : ∃ v, r1 = some (0, v) := by
    obtain ⟨_, _, z⟩ := h1
    rcases z with ⟨_, z, _⟩ | ⟨_, _, z, _⟩ | ⟨_, _, _, z, _⟩ | ⟨_, _, _, z, _⟩ <;> exact ⟨_, z⟩
  obtain ⟨v, rfl⟩ := hv
  have hw : WF K1 M1 ∧ ∀ x : Int, 36 ≤ x → x ≤ 54 → M1 x = M x := pair_cl h h1
  have hml := ML.of h hw.1 hw.2
  refine ⟨v, rfl, hml, fun r2 n2 K2 M2 h2 => ?_⟩
  obtain ⟨_, hz⟩ := key r2 n2 K2 M2 h2
  obtain ⟨⟨v', e1, e2⟩, e3, e4, e5⟩ := hz hml.1
  refine ⟨?_, e5, by omega, by omega⟩
  rw [e2, ← e1]
theorem sem_pairs (h : LK K M) (hn : 55 ≤ n) {o s so q : Int} : SEM n K M 0 (prQ n K M o s so q) (fun n1 K1 M1 => PQ (some (0, prV M1 o s so q)) n1 K1 (prN M1 o s so q)) := by
  intro r1 n1 K1 M1 h1
  obtain ⟨hw, rfl, rfl, hlk⟩ := h.prd h1
  refine ⟨_, rfl, ML.of h hw.1 hw.2, ?_⟩
  rintro r2 n2 K2 M2 ⟨rfl, rfl, rfl, rfl⟩
  exact ⟨rfl, hlk, by omega, hn⟩
end SEMS
