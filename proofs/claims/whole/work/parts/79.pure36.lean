/-! ===== sets within all things ===== -/
theorem and_not_0 {x k : BitVec 32} (h : x &&& (k ^^^ BitVec.ofInt 32 (-1)) = 0#32) : x = x &&& k := by
  apply BitVec.eq_of_getLsbD_eq
  intro i hi
  have h1 := congrArg (fun z => z.getLsbD i) h
  simp only [BitVec.getLsbD_and, BitVec.getLsbD_xor] at h1
  rw [BitVec.getLsbD_and]
  have h2 : (BitVec.ofInt 32 (-1)).getLsbD i = true := by
    rw [bvm1, BitVec.getLsbD_ofNat]
    have : (4294967295 : Nat) = 2 ^ 32 - 1 := by decide
    rw [this, Nat.testBit_two_pow_sub_one]
    simp; omega
  rw [h2] at h1
  simp at h1
  cases hx : x.getLsbD i with
  | false => rfl
  | true => rw [hx] at h1; simp at h1; rw [h1]; rfl
theorem in_all {m s : Int} (hm : 0 ≤ m ∧ m ≤ 10) (hs : inR s) : zand s (zxor (p2 m - 1) (-1)) = 0 ↔ (0 ≤ s ∧ s < p2 m) := by
  have hp := p2_b hm
  have hk : nn (p2 m - 1) := ⟨by omega, by omega⟩
  constructor
  · intro h
    have h1 : Int32.ofInt s &&& (Int32.ofInt (p2 m - 1) ^^^ Int32.ofInt (-1)) = 0 := by
      have h2 : (Int32.ofInt s &&& Int32.ofInt (zxor (p2 m - 1) (-1))).toInt = 0 := h
      unfold zxor at h2
      rw [Int32.ofInt_toInt] at h2
      apply Int32.toInt_inj.mp
      rw [h2]; rfl
    have h3 := congrArg Int32.toBitVec h1
    rw [Int32.toBitVec_and, Int32.toBitVec_xor, Int32.toBitVec_ofInt, Int32.toBitVec_ofInt, Int32.toBitVec_ofInt] at h3
    have h4 := and_not_0 h3
    have h5 : Int32.ofInt s = Int32.ofInt s &&& Int32.ofInt (p2 m - 1) := by
      apply Int32.toBitVec_inj.mp
      rw [Int32.toBitVec_and, Int32.toBitVec_ofInt, Int32.toBitVec_ofInt]
      exact h4
    have h6 : s = zand s (p2 m - 1) := by
      have := congrArg Int32.toInt h5
      rw [i3_to hs] at this
      exact this
    -- the value of an and with a number that is not negative
    have h7 : zand s (p2 m - 1) = ((BitVec.ofInt 32 s &&& BitVec.ofNat 32 (p2 m - 1).toNat).toNat : Int) := by
      unfold zand
      rw [tI_def, Int32.toBitVec_and, Int32.toBitVec_ofInt, tbv_nn hk.1]
      have hlt : (BitVec.ofInt 32 s &&& BitVec.ofNat 32 (p2 m - 1).toNat).toNat ≤ (p2 m - 1).toNat := by
        rw [BitVec.toNat_and, BitVec.toNat_ofNat, Nat.mod_eq_of_lt (by omega)]
        exact Nat.and_le_right
      rw [BitVec.toInt_eq_toNat_of_lt (by omega)]
    have hlt : (BitVec.ofInt 32 s &&& BitVec.ofNat 32 (p2 m - 1).toNat).toNat ≤ (p2 m - 1).toNat := by
      rw [BitVec.toNat_and, BitVec.toNat_ofNat, Nat.mod_eq_of_lt (by omega)]
      exact Nat.and_le_right
    omega
  · intro h
    refine (zdif_0 ⟨h.1, by omega⟩ hk).mpr (fun a h0 h1 hb => ?_)
    have ha : a < m := by
      rcases Int.lt_or_le a m with q | q
      · exact q
      · rw [bt_hi hm h q] at hb; cases hb
    exact p2_m1 hm ⟨h0, ha⟩
theorem pkm_lt {m s i : Int} (hm : 0 ≤ m ∧ m ≤ 10) (hs : 0 ≤ s ∧ s < p2 m) (hi : 0 ≤ i ∧ i < cnt s) : 0 ≤ pk s i ∧ pk s i < m := by
  have h := pki_in hi
  refine ⟨h.1, ?_⟩
  rcases Int.lt_or_le (pk s i) m with q | q
  · exact q
  · rw [bt_hi hm hs q] at h; cases h.2.2
theorem cnt_lt {s v : Int} (hv : 0 ≤ v ∧ v < 10) (h : bt s v = true) : sumZ v (fun a => B (bt s a)) + 1 ≤ cnt s := by
  unfold cnt
  have key : ∀ j : Nat, v + 1 + j ≤ 10 → sumZ v (fun a => B (bt s a)) + 1 ≤ sumZ (v + 1 + j) (fun a => B (bt s a)) := by
    intro j
    induction j with
    | zero =>
      intro _
      rw [show v + 1 + ((0 : Nat) : Int) = v + 1 by omega, sumZ_s hv.1]
      show _ ≤ _ + B (bt s v)
      rw [h]
      exact Int.le_refl _
    | succ j ih =>
      intro hj
      have h1 := ih (by omega)
      rw [show v + 1 + ((j + 1 : Nat) : Int) = (v + 1 + j) + 1 by omega, sumZ_s (c := v + 1 + j) (by omega)]
      have h2 := B_01 (bt s (v + 1 + j))
      show _ ≤ sumZ (v + 1 + j) (fun a => B (bt s a)) + B (bt s (v + 1 + j))
      omega
  have := key (10 - (v + 1)).toNat (by omega)
  rw [show v + 1 + (((10 - (v + 1)).toNat : Nat) : Int) = 10 by omega] at this
  exact this
