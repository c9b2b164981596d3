/-! ===== maps and inverses: the class and the model alike ===== -/
theorem wr_add_l (x y : Int) : wr (wr x + y) = wr (x + y) := by
  unfold wr
  rw [Int32.ofInt_add, Int32.ofInt_toInt, ← Int32.ofInt_add]
theorem wr_sub_l (x y : Int) : wr (wr x - y) = wr (x - y) := by
  unfold wr
  rw [Int32.ofInt_sub, Int32.ofInt_toInt, ← Int32.ofInt_sub]
theorem wr_neg_w (x : Int) : wr (-(wr x)) = wr (-x) := by
  unfold wr
  rw [Int32.ofInt_neg, Int32.ofInt_toInt, ← Int32.ofInt_neg]
theorem wr_00 : wr 0 = 0 := wr_in ⟨by omega, by omega⟩
def Iso (m : Int) (d e : Int → Int) (z : XX) : Prop := (∀ i, 0 ≤ i → i < m → 0 ≤ z i ∧ z i < m) ∧ (∀ i j, 0 ≤ i → i < j → j < m → z i ≠ z j) ∧ ∀ a b, 0 ≤ a → a < m → 0 ≤ b → b < m → rel d a b = rel e (z a) (z b)
section ISO
variable {m : Int} {d e : Int → Int} {z : XX}
theorem smk_sum {s : Int} {F : XX} (hm : 0 ≤ m ∧ m ≤ 10) (hs : 0 ≤ s ∧ s < p2 m) : smk s F = wr (sumZ m (fun t => if bt s t then wr (wr (F t * F t) + 7) else 0)) := by
  have key : ∀ k : Nat, foldZ (k : Int) (fun v t => if bt s t then wr (v + wr (wr (F t * F t) + 7)) else v) 0 = wr (sumZ (k : Int) (fun t => if bt s t then wr (wr (F t * F t) + 7) else 0)) := by
    intro k
    induction k with
    | zero => exact wr_00.symm
    | succ k ih =>
      rw [show ((k + 1 : Nat) : Int) = (k : Int) + 1 by omega, foldZ_s (by omega), sumZ_s (by omega), ih]
      by_cases h : bt s k = true
      · rw [if_pos h, if_pos h, wr_add_l]
      · rw [if_neg h, if_neg h, Int.add_zero]
  unfold smk
  have := key 10
  rw [show ((10 : Nat) : Int) = 10 from rfl] at this
  rw [this, sumZ_tail (n := 10) (m := m) hm.1 hm.2 (fun c c0 _ => by rw [bt_hi hm hs c0]; rfl)]
theorem iso_mk (hP : PO m d) (hQ : PO m e) (hz : Iso m d e z) : ∀ (k : Nat) (t : Int), 0 ≤ t → t < m → mkS m d k t = mkS m e k (z t) := by
  have hm := hP.1.1
  obtain ⟨z1, z2, z3⟩ := hz
  intro k
  induction k with
  | zero => intro t t0 t1; exact (mkS_0 ⟨t0, t1⟩).trans (mkS_0 (z1 t t0 t1)).symm
  | succ k ih =>
    intro t t0 t1
    have hzt := z1 t t0 t1
    rw [show ((k + 1 : Nat) : Int) = (k : Int) + 1 by omega, mkS_s (by omega) ⟨t0, t1⟩, mkS_s (by omega) hzt]
    have d1 := hP.1.2.1 t t0 (by omega)
    have d2 := hP.1.2.2 t t0 (by omega)
    have e1 := hQ.1.2.1 (z t) hzt.1 (by omega)
    have e2 := hQ.1.2.2 (z t) hzt.1 (by omega)
    have hA : smk (d t) (mkS m d k) = smk (e (z t)) (mkS m e k) := by
      rw [smk_sum hm ⟨d1.1, d2⟩, smk_sum hm ⟨e1.1, e2⟩, ← sumZ_perm hm.1 z1 z2 (fun w => if bt (e (z t)) w then wr (wr (mkS m e k w * mkS m e k w) + 7) else 0)]
      congr 1
      refine sumZ_congr (fun u u0 u1 => ?_)
      rw [← ih u u0 u1, show bt (d t) u = bt (e (z t)) (z u) from z3 u t u0 u1 t0 t1]
    have hB : smk (upS m d t) (mkS m d k) = smk (upS m e (z t)) (mkS m e k) := by
      have h3 := mk_lt hm (fun b => rel d t b)
      have h4 := mk_p2 hm (fun b => rel d t b)
      have h5 := mk_lt hm (fun b => rel e (z t) b)
      have h6 := mk_p2 hm (fun b => rel e (z t) b)
      rw [smk_sum (s := upS m d t) hm ⟨h3.1, h4⟩, smk_sum (s := upS m e (z t)) hm ⟨h5.1, h6⟩, ← sumZ_perm hm.1 z1 z2 (fun w => if bt (upS m e (z t)) w then wr (wr (mkS m e k w * mkS m e k w) + 7) else 0)]
      congr 1
      refine sumZ_congr (fun u u0 u1 => ?_)
      have hzu := z1 u u0 u1
      rw [← ih u u0 u1, bt_upS hm.2 u0, bt_upS hm.2 hzu.1, decide_eq_true u1, decide_eq_true hzu.2, z3 t u t0 t1 u0 u1]
    unfold nmk
    rw [hA, hB, ih t t0 t1]
theorem iso_lev (hP : PO m d) (hQ : PO m e) (hz : Iso m d e z) {t : Int} (ht : 0 ≤ t ∧ t < m) : lev m d t = lev m e (z t) := by
  have hm := hP.1.1
  obtain ⟨z1, z2, z3⟩ := hz
  have hzt := z1 t ht.1 ht.2
  have d1 := hP.1.2.1 t ht.1 (by omega)
  have d2 := hP.1.2.2 t ht.1 (by omega)
  have e1 := hQ.1.2.1 (z t) hzt.1 (by omega)
  have e2 := hQ.1.2.2 (z t) hzt.1 (by omega)
  unfold lev
  rw [cnt_m hm ⟨d1.1, d2⟩, cnt_m hm ⟨e1.1, e2⟩, ← sumZ_perm hm.1 z1 z2 (fun a => B (bt (e (z t)) a)), ← sumZ_perm hm.1 z1 z2 (fun x => B (rel e (z t) x)), sumZ_congr (f := fun a => B (bt (d t) a)) (g := fun i => B (bt (e (z t)) (z i))) (fun u u0 u1 => by rw [show bt (d t) u = bt (e (z t)) (z u) from z3 u t u0 u1 ht.1 ht.2]), sumZ_congr (f := fun x => B (rel d t x)) (g := fun i => B (rel e (z t) (z i))) (fun u u0 u1 => by rw [z3 t u ht.1 ht.2 u0 u1])]
theorem iso_lk (hP : PO m d) (hQ : PO m e) (hz : Iso m d e z) : lkM m (mkS m d 3) (mkS m e 3) = true ∧ allB m (fun c => decide (ofLev m d (lev m d c) = ofLev m e (lev m d c))) = true := by
  have hm := hP.1.1
  constructor
  · unfold lkM
    rw [allB_iff]
    intro t t0 t1
    rw [decide_eq_true_eq, ← sumZ_perm hm.1 hz.1 hz.2.1 (fun s => B (decide (mkS m e 3 s = mkS m d 3 t)))]
    exact sumZ_congr (fun s s0 s1 => by rw [show mkS m d 3 s = mkS m e 3 (z s) from iso_mk hP hQ hz 3 s s0 s1])
  · rw [allB_iff]
    intro t t0 t1
    rw [decide_eq_true_eq]
    unfold ofLev
    rw [← sumZ_perm hm.1 hz.1 hz.2.1 (fun c => B (decide (lev m e c = lev m d t)))]
    exact sumZ_congr (fun s s0 s1 => by rw [iso_lev hP hQ hz ⟨s0, s1⟩])
theorem gm_iso (hP : PO m d) (hQ : PO m e) (hz : ∀ i, 0 ≤ i → i < m → 0 ≤ z i ∧ z i < m) {F H : XX} (h : ∀ i, 0 ≤ i → i < m → gmP d e F H z i (z i) = true) : Iso m d e z := by
  have hm := hP.1.1
  have hh : ∀ i, 0 ≤ i → i < m → bt (hadS z i) (z i) = false ∧ ∀ a, 0 ≤ a → a < i → rel d a i = rel e (z a) (z i) ∧ rel d i a = rel e (z i) (z a) := by
    intro i i0 i1
    have := h i i0 i1
    unfold gmP at this
    rw [Bool.and_eq_true, Bool.and_eq_true, allB_iff, Bool.not_eq_true'] at this
    refine ⟨this.1, fun a a0 a1 => ?_⟩
    have h2 := this.2.2 a a0 a1
    rw [Bool.and_eq_true, beq_iff_eq, beq_iff_eq] at h2
    exact h2
  refine ⟨hz, fun i j i0 ij j1 he => ?_, fun a b a0 a1 b0 b1 => ?_⟩
  · have h1 := (hh j (by omega) j1).1
    have h2 := (hadS_bt (x := z) j.toNat (fun k k0 k1 => by have := hz k k0 (by omega); omega) (z j) (hz j (by omega) j1).1).mpr ⟨i, i0, by omega, he⟩
    rw [show ((j.toNat : Nat) : Int) = j by omega, h1] at h2
    cases h2
  · rcases Int.lt_trichotomy a b with q | q | q
    · exact ((hh b b0 b1).2 a a0 q).1
    · rw [q, hP.2.1 b b0 b1, hQ.2.1 (z b) (hz b b0 b1).1 (hz b b0 b1).2]
    · exact ((hh a a0 a1).2 b b0 q).2
theorem mp_iso (hP : PO m d) (hQ : PO m e) (hz : ∀ i, 0 ≤ i → i < m → 0 ≤ z i ∧ z i < m) (h : ∀ i, 0 ≤ i → i < m → mpP m d e z i (z i) = true) : Iso m d e z := by
  have hh : ∀ i, 0 ≤ i → i < m → ∀ a, 0 ≤ a → a < i → z a ≠ z i ∧ rel d a i = rel e (z a) (z i) ∧ rel d i a = rel e (z i) (z a) := by
    intro i i0 i1 a a0 a1
    have := h i i0 i1
    unfold mpP at this
    rw [Bool.and_eq_true, allB_iff] at this
    have h2 := this.2 a a0 a1
    rw [Bool.and_eq_true, Bool.and_eq_true, beq_iff_eq, beq_iff_eq, Bool.not_eq_true', decide_eq_false_iff_not] at h2
    exact h2
  refine ⟨hz, fun i j i0 ij j1 => (hh j (by omega) j1 i i0 ij).1, fun a b a0 a1 b0 b1 => ?_⟩
  rcases Int.lt_trichotomy a b with q | q | q
  · exact (hh b b0 b1 a a0 q).2.1
  · rw [q, hP.2.1 b b0 b1, hQ.2.1 (z b) (hz b b0 b1).1 (hz b b0 b1).2]
  · exact (hh a a0 a1 b b0 q).2.2
theorem iso_gm (hP : PO m d) (hQ : PO m e) (hz : Iso m d e z) : ∀ i, 0 ≤ i → i < m → gmP d e (mkS m d 3) (mkS m e 3) z i (z i) = true := by
  have hm := hP.1.1
  intro i i0 i1
  have hzi := hz.1 i i0 i1
  unfold gmP
  rw [Bool.and_eq_true, Bool.and_eq_true, allB_iff, decide_eq_true_eq, Bool.not_eq_true']
  refine ⟨?_, iso_mk hP hQ hz 3 i i0 i1, fun a a0 a1 => ?_⟩
  · cases hb : bt (hadS z i) (z i) with
    | false => rfl
    | true =>
      exfalso
      obtain ⟨j, j0, j1, j2⟩ := (hadS_bt (x := z) i.toNat (fun k k0 k1 => by have := hz.1 k k0 (by omega); omega) (z i) hzi.1).mp (by rw [show ((i.toNat : Nat) : Int) = i by omega]; exact hb)
      exact hz.2.1 j i j0 (by omega) i1 j2
  · rw [hz.2.2 a i a0 (by omega) i0 i1, hz.2.2 i a i0 i1 a0 (by omega)]; simp
theorem iso_mp (hP : PO m d) (hQ : PO m e) (hz : Iso m d e z) : ∀ i, 0 ≤ i → i < m → mpP m d e z i (z i) = true := by
  intro i i0 i1
  unfold mpP
  rw [Bool.and_eq_true, allB_iff, decide_eq_true_eq]
  refine ⟨iso_lev hP hQ hz ⟨i0, i1⟩, fun a a0 a1 => ?_⟩
  rw [hz.2.2 a i a0 (by omega) i0 i1, hz.2.2 i a i0 i1 a0 (by omega), decide_eq_false (hz.2.1 a i a0 a1 i1)]; simp
theorem im_eq (hP : PO m d) (hQ : PO m e) : imR m d e = mpR m d e := by
  have hm := hP.1.1
  have heq : dfs m m (gmP d e (mkS m d 3) (mkS m e 3)) = dfs m m (mpP m d e) :=
    dfs_eq hm.1 (gmP_loc d e _ _) (mpP_loc m d e) (fun z hz => ⟨fun h => iso_mp hP hQ (gm_iso hP hQ hz h), fun h => iso_gm hP hQ (mp_iso hP hQ hz h)⟩)
  unfold imR mpR
  rcases Classical.em (∃ z, Iso m d e z) with ⟨z, hz⟩ | hno
  · have h := iso_lk hP hQ hz
    rw [if_pos h.1, if_pos h.2, heq]
  · have hn : dfs m m (mpP m d e) = none := by
      cases hd : dfs m m (mpP m d e) with
      | none => rfl
      | some z =>
        have := (dfs_sound hm.1 (mpP_loc m d e) hd).1
        exact absurd ⟨z, mp_iso hP hQ (fun i i0 i1 => (this i i0 i1).2) (fun i i0 i1 => (this i i0 i1).1)⟩ hno
    rw [heq, hn]
    split <;> split <;> rfl
end ISO
section INV
variable {m : Int} {d : Int → Int}
theorem iv_val (hP : PO m d) {a c : Int} (ha : 0 ≤ a ∧ a < m) (hc : 0 ≤ c ∧ c < m) {I J : XX} (h : ∀ e, 0 ≤ e → e < m → rel d e c = true → I e = J e) : ivV m d a c I = invV m d a c J := by
  unfold ivV invV
  by_cases hac : a = c
  · rw [if_pos hac, hac, hP.2.1 c hc.1 hc.2, if_neg (by decide), decide_eq_true rfl]; rfl
  · rw [if_neg hac, decide_eq_false (fun q => hac q.symm)]
    by_cases hr : rel d a c = true
    · rw [if_pos hr, if_pos hr]
      have key : ∀ k : Nat, (k : Int) ≤ m → foldZ (k : Int) (fun v e => if ivT d a c I e then wr (v + I e) else v) 0 = wr (sumZ (k : Int) (fun e => if rel d e c && (decide (e = a) || rel d a e) then I e else 0)) ∧ foldZ (k : Int) (fun v e => wr (v - invT d a c J e)) 0 = wr (-(sumZ (k : Int) (fun e => if rel d e c && (decide (e = a) || rel d a e) then I e else 0))) := by
        intro k
        induction k with
        | zero => intro _; exact ⟨wr_00.symm, wr_00.symm⟩
        | succ k ih =>
          intro hk
          obtain ⟨h1, h2⟩ := ih (by omega)
          rw [show ((k + 1 : Nat) : Int) = (k : Int) + 1 by omega, foldZ_s (by omega), foldZ_s (by omega), sumZ_s (by omega), h1, h2]
          have e1 : invT d a c J k = if rel d k c && (decide ((k : Int) = a) || rel d a k) then I k else 0 := by
            unfold invT
            by_cases q : (rel d k c && (decide ((k : Int) = a) || rel d a k)) = true
            · rw [if_pos q, if_pos q, h k (by omega) (by omega) (by rw [Bool.and_eq_true] at q; exact q.1)]
            · rw [if_neg q, if_neg q]
          rw [e1]
          unfold ivT
          by_cases q : (rel d k c && (decide ((k : Int) = a) || rel d a k)) = true
          · rw [if_pos q, if_pos q, wr_add_l, wr_sub_l]
            exact ⟨rfl, by congr 1; omega⟩
          · rw [if_neg q, if_neg q, wr_sub_l, Int.add_zero, Int.sub_zero]
            exact ⟨rfl, rfl⟩
      have hk := key m.toNat (by have := hP.1.1; omega)
      rw [show ((m.toNat : Nat) : Int) = m by have := hP.1.1; omega] at hk
      rw [hk.1, wr_neg_w]
      exact hk.2.symm
    · rw [if_neg hr, if_neg hr]; rfl
theorem iv_row (hP : PO m d) {a k : Int} (ha : 0 ≤ a ∧ a < m) {I J : XX} (h : ∀ c, 0 ≤ c → c < m → cnt (d c) < k → I c = J c) : ∀ c, 0 ≤ c → c < m → cnt (d c) < k + 1 → ivK m d a k I m c = invK m d a k J m c := by
  have hm := hP.1.1
  have key : ∀ c0 : Nat, (c0 : Int) ≤ m → ∀ c, 0 ≤ c → c < m → (cnt (d c) < k ∨ (cnt (d c) = k ∧ c < c0)) → ivK m d a k I c0 c = invK m d a k J c0 c := by
    intro c0
    induction c0 with
    | zero => intro _ c h0 h1 h2; rcases h2 with q | q; exact h c h0 h1 q; omega
    | succ c0 ih =>
      intro hc0 c h0 h1 h2
      have ih := ih (by omega)
      rw [show ((c0 + 1 : Nat) : Int) = (c0 : Int) + 1 by omega, ivK_s (by omega), invK_s (by omega)]
      unfold ivC invC
      by_cases hq : cnt (d c0) = k
      · rw [if_pos hq, if_pos hq]
        show (if c = (c0 : Int) then _ else _) = (if c = (c0 : Int) then _ else _)
        by_cases hcc : c = c0
        · rw [if_pos hcc, if_pos hcc]
          exact iv_val hP ha ⟨by omega, by omega⟩ (fun e e0 e1 hr => ih e e0 e1 (Or.inl (by have := hP.cnt_lt ⟨e0, e1⟩ (b := c0) ⟨by omega, by omega⟩ hr; omega)))
        · rw [if_neg hcc, if_neg hcc]
          exact ih c h0 h1 (by omega)
      · rw [if_neg hq, if_neg hq]
        refine ih c h0 h1 ?_
        rcases h2 with z | ⟨z1, z2⟩
        · exact Or.inl z
        · right
          refine ⟨z1, ?_⟩
          by_cases hcc : c = c0
          · rw [hcc] at z1; exact absurd z1 hq
          · omega
  have h2 := key m.toNat (by omega)
  rw [show ((m.toNat : Nat) : Int) = m by omega] at h2
  intro c c0 c1 hc
  exact h2 c c0 c1 (by omega)
theorem iv_eq (hP : PO m d) {a b : Int} (ha : 0 ≤ a ∧ a < m) (hb : 0 ≤ b ∧ b < m) (I J : XX) : ivS m d a I m b = invS m d a J 10 b := by
  have hm := hP.1.1
  have key : ∀ k : Nat, ∀ c, 0 ≤ c → c < m → cnt (d c) < (k : Int) → ivS m d a I k c = invS m d a J k c := by
    intro k
    induction k with
    | zero => intro c _ _ h; have := cnt_b (d c); omega
    | succ k ih =>
      rw [show ((k + 1 : Nat) : Int) = (k : Int) + 1 by omega, ivS_s (by omega), invS_s (by omega)]
      exact iv_row hP ha ih
  have h1 := key m.toNat b hb.1 hb.2 (by have := hP.cntm hb; omega)
  rw [show ((m.toNat : Nat) : Int) = m by omega] at h1
  have key2 : ∀ j : Nat, invS m d a J (m + j) b = invS m d a J m b := by
    intro j
    induction j with
    | zero => rw [show m + ((0 : Nat) : Int) = m by omega]
    | succ j ih =>
      rw [show m + ((j + 1 : Nat) : Int) = (m + j) + 1 by omega, invS_s (by omega), ← ih]
      have key3 : ∀ c0 : Nat, (c0 : Int) ≤ m → invK m d a (m + j) (invS m d a J (m + j)) c0 = invS m d a J (m + j) := by
        intro c0
        induction c0 with
        | zero => intro _; rfl
        | succ c0 ih3 =>
          intro hc
          rw [show ((c0 + 1 : Nat) : Int) = (c0 : Int) + 1 by omega, invK_s (by omega), ih3 (by omega)]
          unfold invC
          rw [if_neg (by have := hP.cntm (b := c0) ⟨by omega, by omega⟩; omega)]
      have := key3 m.toNat (by omega)
      rw [show ((m.toNat : Nat) : Int) = m by omega] at this
      rw [this]
  have h2 := key2 (10 - m).toNat
  rw [show m + (((10 - m).toNat : Nat) : Int) = 10 by omega] at h2
  rw [h2, h1]
end INV
