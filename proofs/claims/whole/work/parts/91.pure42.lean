/-! ===== the class's search for two rows is the model's ===== -/
def CN (m : Int) (d : Int → Int) (x : XX) : Prop := ∀ i, 0 ≤ i → i < m → can d (hadS x i) (x i) = true ∧ 0 ≤ x i ∧ x i < m
theorem CN.inj {m : Int} {d : Int → Int} {x : XX} (hm : 0 ≤ m ∧ m ≤ 10) (h : CN m d x) {i j : Int} (hi : 0 ≤ i ∧ i < m) (hj : 0 ≤ j ∧ j < m) (he : x i = x j) : i = j := by
  have key : ∀ i j : Int, 0 ≤ i → i < j → j < m → x i ≠ x j := by
    intro i j h0 h1 h2 he
    have h3 := (can_iff.mp (h j (by omega) h2).1).1
    have h4 := (hadS_bt (x := x) j.toNat (fun k h5 h6 => by have := h k h5 (by omega); omega) (x j) (h j (by omega) h2).2.1).mpr ⟨i, h0, by omega, he⟩
    rw [show ((j.toNat : Nat) : Int) = j by omega, h3] at h4
    cases h4
  rcases Int.lt_trichotomy i j with q | q | q
  · exact absurd he (key i j hi.1 q hj.2)
  · exact q
  · exact absurd he.symm (key j i hj.1 q hi.2)
theorem CN.had {m : Int} {d : Int → Int} {x : XX} (hm : 0 ≤ m ∧ m ≤ 10) (h : CN m d x) {i j : Int} (hi : 0 ≤ i ∧ i < m) (hj : 0 ≤ j ∧ j < m) : bt (hadS x j) (x i) = true ↔ i < j := by
  have hx : ∀ k : Int, 0 ≤ k → k < (j.toNat : Nat) → 0 ≤ x k ∧ x k < 10 := fun k h5 h6 => by have := h k h5 (by omega); omega
  have hb := hadS_bt j.toNat hx (x i) (h i hi.1 hi.2).2.1
  rw [show ((j.toNat : Nat) : Int) = j by omega] at hb
  rw [hb]
  constructor
  · rintro ⟨k, h5, h6, h7⟩
    have := h.inj hm ⟨h5, by omega⟩ hi h7
    omega
  · intro q; exact ⟨i, hi.1, q, rfl⟩
theorem CN.mono {m : Int} {d : Int → Int} {x : XX} (hP : PO m d) (h : CN m d x) {i j : Int} (hi : 0 ≤ i ∧ i < m) (hj : 0 ≤ j ∧ j < m) (hr : rel d (x i) (x j) = true) : i < j := by
  have hm := hP.1.1
  have hx : ∀ k : Int, 0 ≤ k → k < (j.toNat : Nat) → 0 ≤ x k ∧ x k < 10 := fun k h5 h6 => by have := h k h5 (by omega); omega
  have h3 := (can_iff.mp (h j hj.1 hj.2).1).2
  have hxj := (h j hj.1 hj.2).2
  have hxi := (h i hi.1 hi.2).2
  have hb := hadS_b (x := x) j.toNat hx
  rw [show ((j.toNat : Nat) : Int) = j by omega] at hb
  exact (h.had hm hi hj).mp ((sub_iff (hP.1.nn ⟨hxj.1, by omega⟩) (nn10 hb)).mp h3 (x i) hxi.1 (by omega) hr)
theorem ptO_iff {m : Int} {d : Int → Int} {s t : Int} (hO : OK m d) (hs : 0 ≤ s ∧ s < 1024) (ht : 0 ≤ t ∧ t < m) : ptO m d s t = true ↔ ∃ a b, (0 ≤ a ∧ a < m) ∧ (0 ≤ b ∧ b < m) ∧ bt s a = true ∧ rel d a t = false ∧ rel d a b = true ∧ bt s b = false ∧ rel d t b = false := by
  have hm := hO.1
  have hns := nn10 hs
  have hnd : nn (d t) := hO.nn ⟨ht.1, by omega⟩
  have hnu : ∀ a, nn (upS m d a) := fun a => mk_nn (by omega) _
  have hnp : nn (p2 m - 1) := nn10 (by have := p2_b hm; omega)
  have hn1 : nn (zand (p2 m - 1) (zxor s (-1))) := nn_zdif hnp hns
  have hn2 : nn (zand (zand (p2 m - 1) (zxor s (-1))) (zxor (upS m d t) (-1))) := nn_zdif hn1 (hnu t)
  unfold ptO
  rw [exB_iff]
  constructor
  · rintro ⟨a, a0, a1, h⟩
    rw [Bool.and_eq_true, bt_zdif hns hnd] at h
    obtain ⟨h1, h2⟩ := h
    rw [Bool.and_eq_true] at h1
    rcases Classical.em (∃ b, (0 ≤ b ∧ b < m) ∧ rel d a b = true ∧ bt s b = false ∧ rel d t b = false) with q | q
    · obtain ⟨b, q1, q2, q3, q4⟩ := q
      exact ⟨a, b, ⟨a0, a1⟩, q1, h1.1, by have z := h1.2; unfold rel; revert z; cases bt (d t) a <;> simp, q2, q3, q4⟩
    · exfalso
      have : dis (upS m d a) (zand (zand (p2 m - 1) (zxor s (-1))) (zxor (upS m d t) (-1))) = true := by
        rw [dis_iff (hnu a) hn2]
        intro b b0 b1 hb
        rw [bt_upS hm.2 b0, Bool.and_eq_true, decide_eq_true_eq] at hb
        rw [bt_zdif hn1 (hnu t), bt_zdif hnp hns, bt_upS hm.2 b0]
        cases hsb : bt s b
        · cases htb : rel d t b
          · exact absurd ⟨b, ⟨b0, hb.1⟩, hb.2, hsb, htb⟩ q
          · rw [decide_eq_true hb.1]; simp
        · simp
      rw [this] at h2
      cases h2
  · rintro ⟨a, b, ha, hb, h1, h2, h3, h4, h5⟩
    refine ⟨a, ha.1, ha.2, ?_⟩
    rw [Bool.and_eq_true, bt_zdif hns hnd, h1, show bt (d t) a = false from h2]
    refine ⟨rfl, ?_⟩
    cases hd : dis (upS m d a) (zand (zand (p2 m - 1) (zxor s (-1))) (zxor (upS m d t) (-1)))
    · rfl
    · exfalso
      have := (dis_iff (hnu a) hn2).mp hd b hb.1 (by omega) (by rw [bt_upS hm.2 hb.1, h3, decide_eq_true hb.2]; rfl)
      rw [bt_zdif hn1 (hnu t), bt_zdif hnp hns, bt_upS hm.2 hb.1, h4, h5, bt_p2m1 hm hb.1, decide_eq_true hb.2] at this
      cases this
theorem gr_tw {m : Int} {d : Int → Int} (hP : PO m d) : grR m d = twR m d := by
  have hm := hP.1.1
  unfold grR twR
  apply dfs_eq hm.1 (grP_loc m d) (twP_loc d)
  intro z hz
  have had : ∀ i, 0 ≤ i → i < m → 0 ≤ hadS z i ∧ hadS z i < 1024 := fun i i0 i1 => by
    have := hadS_b (x := z) i.toNat (fun k h5 h6 => by have := hz k h5 (by omega); omega)
    rw [show ((i.toNat : Nat) : Int) = i by omega] at this
    exact this
  constructor
  · intro h
    have hc : CN m d z := fun i i0 i1 => by
      have := h i i0 i1; unfold grP at this; rw [Bool.and_eq_true] at this; exact ⟨this.1, hz i i0 i1⟩
    intro k k0 k1
    unfold twP
    rw [Bool.and_eq_true, allB_iff]
    refine ⟨(hc k k0 k1).1, fun i i0 i1 => allB_iff.mpr (fun j j0 j1 => ?_)⟩
    rcases Int.lt_or_le i j with q | q
    · have hg := h j j0 (by omega)
      unfold grP at hg
      rw [Bool.and_eq_true] at hg
      cases hrr : rel d (z i) (z k) && (apr d (z i) (z j) && apr d (z j) (z k))
      · simp
      · exfalso
        rw [Bool.and_eq_true, Bool.and_eq_true] at hrr
        obtain ⟨r1, r2, r3⟩ := hrr
        unfold apr at r2 r3
        simp at r2 r3
        have := (ptO_iff hP.1 (had j j0 (by omega)) (hz j j0 (by omega))).mpr ⟨z i, z k, hz i i0 (by omega), hz k k0 k1, (hc.had hm ⟨i0, by omega⟩ ⟨j0, by omega⟩).mpr q, r2.1.2, r1, by
          cases hb : bt (hadS z j) (z k)
          · rfl
          · have := (hc.had hm ⟨k0, k1⟩ ⟨j0, by omega⟩).mp hb; omega, r3.1.2⟩
        rw [this] at hg
        exact absurd hg.2 (by decide)
    · rw [decide_eq_true q]; rfl
  · intro h
    have hc : CN m d z := fun i i0 i1 => by
      have := h i i0 i1; unfold twP at this; rw [Bool.and_eq_true] at this; exact ⟨this.1, hz i i0 i1⟩
    have hT : TwoOK m d z := fun i i0 i1 => ⟨h i i0 i1, hz i i0 i1⟩
    intro j j0 j1
    unfold grP
    rw [Bool.and_eq_true]
    refine ⟨(hc j j0 j1).1, ?_⟩
    cases hp : ptO m d (hadS z j) (z j)
    · rfl
    · exfalso
      obtain ⟨a, b, ha, hb, h1, h2, h3, h4, h5⟩ := (ptO_iff hP.1 (had j j0 j1) (hz j j0 j1)).mp hp
      obtain ⟨i, i0, i1, he⟩ := surj_of_inj hz (fun i j h0 h1 h2 he => by have := hc.inj hm ⟨h0, by omega⟩ ⟨by omega, h2⟩ he; omega) ha
      obtain ⟨k, k0, k1, hf⟩ := surj_of_inj hz (fun i j h0 h1 h2 he => by have := hc.inj hm ⟨h0, by omega⟩ ⟨by omega, h2⟩ he; omega) hb
      subst he; subst hf
      have q1 := (hc.had hm ⟨i0, i1⟩ ⟨j0, j1⟩).mp h1
      have q2 : ¬ k < j := fun q => by have := (hc.had hm ⟨k0, k1⟩ ⟨j0, j1⟩).mpr q; rw [h4] at this; cases this
      have q3 : k ≠ j := fun q => by rw [q, h2] at h3; cases h3
      have n1 : rel d (z j) (z i) = false := by
        cases hb : rel d (z j) (z i)
        · rfl
        · have := hc.mono hP ⟨j0, j1⟩ ⟨i0, i1⟩ hb; omega
      have n2 : rel d (z k) (z j) = false := by
        cases hb : rel d (z k) (z j)
        · rfl
        · have := hc.mono hP ⟨k0, k1⟩ ⟨j0, j1⟩ hb; omega
      have e1 : z i ≠ z j := fun q => by have := hc.inj hm ⟨i0, i1⟩ ⟨j0, j1⟩ q; omega
      have e2 : z j ≠ z k := fun q => by have := hc.inj hm ⟨j0, j1⟩ ⟨k0, k1⟩ q; omega
      exact hT.no i0 q1 (by omega) k1 h3 (by unfold apr; rw [h2, n1, decide_eq_true e1]; rfl) (by unfold apr; rw [h5, n2, decide_eq_true e2]; rfl)
theorem gr_two {m : Int} {d : Int → Int} (hP : PO m d) {z : XX} (h : grR m d = some z) : TwoOK m d z := two_ok hP.1.1.1 (by rw [← gr_tw hP]; exact h)
