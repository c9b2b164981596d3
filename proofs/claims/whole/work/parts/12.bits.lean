/-! ===== bits of small numbers ===== -/
def bt (s a : Int) : Bool := s.toNat.testBit a.toNat
theorem tbv_nn {x : Int} (h : 0 ≤ x) : (Int32.ofInt x).toBitVec = BitVec.ofNat 32 x.toNat := by
  rw [Int32.toBitVec_ofInt]
  conv => lhs; rw [← Int.toNat_of_nonneg h]
  rw [BitVec.ofInt_natCast]
theorem ofN_toInt {k : Nat} (h : k < 2147483648) : (BitVec.ofNat 32 k).toInt = (k : Int) := by
  have h1 : (BitVec.ofNat 32 k).toNat = k := by rw [BitVec.toNat_ofNat, Nat.mod_eq_of_lt (by omega)]
  rw [BitVec.toInt_eq_toNat_of_lt (by rw [h1]; omega), h1]
theorem tI_def (w : Int32) : w.toInt = w.toBitVec.toInt := rfl
def nn (x : Int) : Prop := 0 ≤ x ∧ x < 2147483648
theorem and_lt31 {a b : Nat} (h : a < 2147483648) : a &&& b < 2147483648 := Nat.lt_of_le_of_lt Nat.and_le_left h
theorem or_lt31 {a b : Nat} (ha : a < 2147483648) (hb : b < 2147483648) : a ||| b < 2147483648 := Nat.or_lt_two_pow (n := 31) ha hb
theorem xor_lt31 {a b : Nat} (ha : a < 2147483648) (hb : b < 2147483648) : a ^^^ b < 2147483648 := Nat.xor_lt_two_pow (n := 31) ha hb
theorem nn_tn {x : Int} (h : nn x) : x.toNat < 2147483648 := by have := h.1; have := h.2; omega
theorem zand_nat {x y : Int} (hx : nn x) (hy : nn y) : zand x y = ((x.toNat &&& y.toNat : Nat) : Int) := by
  unfold zand
  rw [tI_def, Int32.toBitVec_and, tbv_nn hx.1, tbv_nn hy.1, ← BitVec.ofNat_and, ofN_toInt (and_lt31 (nn_tn hx))]
theorem zor_nat {x y : Int} (hx : nn x) (hy : nn y) : zor x y = ((x.toNat ||| y.toNat : Nat) : Int) := by
  unfold zor
  rw [tI_def, Int32.toBitVec_or, tbv_nn hx.1, tbv_nn hy.1, ← BitVec.ofNat_or, ofN_toInt (or_lt31 (nn_tn hx) (nn_tn hy))]
theorem zxor_nat {x y : Int} (hx : nn x) (hy : nn y) : zxor x y = ((x.toNat ^^^ y.toNat : Nat) : Int) := by
  unfold zxor
  rw [tI_def, Int32.toBitVec_xor, tbv_nn hx.1, tbv_nn hy.1, ← BitVec.ofNat_xor, ofN_toInt (xor_lt31 (nn_tn hx) (nn_tn hy))]
theorem bvm1 : BitVec.ofInt 32 (-1) = BitVec.ofNat 32 4294967295 := by decide
/-- x without y: x & ~y -/
theorem zdif_nat {x y : Int} (hx : nn x) (hy : nn y) : zand x (zxor y (-1)) = ((x.toNat &&& (y.toNat ^^^ 4294967295) : Nat) : Int) := by
  unfold zand zxor
  rw [Int32.ofInt_toInt, tI_def, Int32.toBitVec_and, Int32.toBitVec_xor, tbv_nn hx.1, tbv_nn hy.1, Int32.toBitVec_ofInt, bvm1, ← BitVec.ofNat_xor, ← BitVec.ofNat_and, ofN_toInt (and_lt31 (nn_tn hx))]
theorem sm_l : ∀ n, n < 31 → ((Int32.ofNat n &&& 31).toBitVec.smod 32).toNat = n := by decide +kernel
theorem ofI_nat {x : Int} (h : 0 ≤ x) : Int32.ofInt x = Int32.ofNat x.toNat := by
  rw [← Int32.ofInt_eq_ofNat, Int.toNat_of_nonneg h]
theorem zshl_nat {x k : Int} (hx : nn x) (hk : 0 ≤ k ∧ k < 31) (h : x.toNat <<< k.toNat < 2147483648) : zshl x k = ((x.toNat <<< k.toNat : Nat) : Int) := by
  unfold zshl
  rw [tI_def, Int32.toBitVec_shiftLeft, ofI_nat hk.1, BitVec.shiftLeft_eq', sm_l _ (by omega), tbv_nn hx.1]
  have e : BitVec.ofNat 32 x.toNat <<< k.toNat = BitVec.ofNat 32 (x.toNat <<< k.toNat) := by
    apply BitVec.eq_of_toNat_eq
    rw [BitVec.toNat_shiftLeft, BitVec.toNat_ofNat, BitVec.toNat_ofNat, Nat.mod_eq_of_lt (a := x.toNat) (by have := nn_tn hx; omega)]
  rw [e, ofN_toInt h]
theorem zshr_nat {x k : Int} (hx : nn x) (hk : 0 ≤ k ∧ k < 31) : zshr x k = ((x.toNat >>> k.toNat : Nat) : Int) := by
  unfold zshr
  have hlt := nn_tn hx
  rw [tI_def, Int32.toBitVec_shiftRight, ofI_nat hk.1, BitVec.sshiftRight_eq', sm_l _ (by omega), tbv_nn hx.1]
  have hm : (BitVec.ofNat 32 x.toNat).msb = false := by
    rw [BitVec.msb_eq_decide, BitVec.toNat_ofNat, Nat.mod_eq_of_lt (by omega)]
    simp; omega
  have e : (BitVec.ofNat 32 x.toNat).sshiftRight k.toNat = BitVec.ofNat 32 (x.toNat >>> k.toNat) := by
    apply BitVec.eq_of_toNat_eq
    rw [BitVec.toNat_sshiftRight_of_msb_false hm, BitVec.toNat_ofNat, BitVec.toNat_ofNat, Nat.mod_eq_of_lt (a := x.toNat) (by omega)]
    rw [Nat.mod_eq_of_lt]
    exact Nat.lt_of_le_of_lt (Nat.shiftRight_le _ _) (by omega)
  rw [e, ofN_toInt (Nat.lt_of_le_of_lt (Nat.shiftRight_le _ _) hlt)]
theorem nn_c (k : Nat) (h : k < 2147483648) : nn (k : Int) := ⟨by omega, by omega⟩
theorem zbit {s a : Int} (hs : nn s) (ha : 0 ≤ a ∧ a < 31) : zand (zshr s a) 1 = B (bt s a) := by
  have hlt := nn_tn hs
  have h1 : s.toNat >>> a.toNat < 2147483648 := Nat.lt_of_le_of_lt (Nat.shiftRight_le _ _) hlt
  rw [zshr_nat hs ha, zand_nat (nn_c _ h1) ⟨by omega, by omega⟩]
  unfold bt
  have e : (s.toNat >>> a.toNat) &&& 1 = (s.toNat.testBit a.toNat).toNat := by
    rw [Nat.and_one_is_mod, Nat.testBit_eq_decide_div_mod_eq, Nat.shiftRight_eq_div_pow]
    have := Nat.mod_two_eq_zero_or_one (s.toNat / 2 ^ a.toNat)
    rcases this with h | h <;> simp [h]
  show ((((s.toNat >>> a.toNat : Nat) : Int).toNat &&& (1 : Int).toNat : Nat) : Int) = _
  rw [Int.toNat_natCast, show (1 : Int).toNat = 1 from rfl, e]
  cases s.toNat.testBit a.toNat <;> rfl
theorem pow_lt31 {k : Nat} (h : k < 31) : 2 ^ k < 2147483648 := Nat.pow_lt_pow_right (a := 2) (by decide) h
theorem zshl1 {a : Int} (ha : 0 ≤ a ∧ a < 31) : zshl 1 a = ((2 ^ a.toNat : Nat) : Int) := by
  have h : (1 : Int).toNat <<< a.toNat = 2 ^ a.toNat := by
    rw [show (1 : Int).toNat = 1 from rfl, Nat.shiftLeft_eq, Nat.one_mul]
  rw [zshl_nat ⟨by omega, by omega⟩ ha (by rw [h]; exact pow_lt31 (by omega)), h]
theorem nn_zshl1 {a : Int} (ha : 0 ≤ a ∧ a < 31) : nn (zshl 1 a) := by
  rw [zshl1 ha]; exact nn_c _ (pow_lt31 (by omega))
theorem nn_zand {x y : Int} (hx : nn x) (hy : nn y) : nn (zand x y) := by rw [zand_nat hx hy]; exact nn_c _ (and_lt31 (nn_tn hx))
theorem nn_zor {x y : Int} (hx : nn x) (hy : nn y) : nn (zor x y) := by rw [zor_nat hx hy]; exact nn_c _ (or_lt31 (nn_tn hx) (nn_tn hy))
theorem nn_zxor {x y : Int} (hx : nn x) (hy : nn y) : nn (zxor x y) := by rw [zxor_nat hx hy]; exact nn_c _ (xor_lt31 (nn_tn hx) (nn_tn hy))
theorem nn_zdif {x y : Int} (hx : nn x) (hy : nn y) : nn (zand x (zxor y (-1))) := by rw [zdif_nat hx hy]; exact nn_c _ (and_lt31 (nn_tn hx))
theorem bt_zand {x y : Int} (hx : nn x) (hy : nn y) (a : Int) : bt (zand x y) a = (bt x a && bt y a) := by
  unfold bt; rw [zand_nat hx hy, Int.toNat_natCast, Nat.testBit_and]
theorem bt_zor {x y : Int} (hx : nn x) (hy : nn y) (a : Int) : bt (zor x y) a = (bt x a || bt y a) := by
  unfold bt; rw [zor_nat hx hy, Int.toNat_natCast, Nat.testBit_or]
theorem bt_zxor {x y : Int} (hx : nn x) (hy : nn y) (a : Int) : bt (zxor x y) a = (bt x a ^^ bt y a) := by
  unfold bt; rw [zxor_nat hx hy, Int.toNat_natCast, Nat.testBit_xor]
theorem tb_big {a i : Nat} (ha : a < 2147483648) (h : a.testBit i = true) : i < 31 := by
  rcases Nat.lt_or_ge i 31 with q | q
  · exact q
  · have : a < 2 ^ i := Nat.lt_of_lt_of_le ha (Nat.pow_le_pow_right (n := 2) (by decide) q)
    rw [Nat.testBit_lt_two_pow this] at h
    cases h
theorem bt_zdif {x y : Int} (hx : nn x) (hy : nn y) (a : Int) : bt (zand x (zxor y (-1))) a = (bt x a && !bt y a) := by
  unfold bt; rw [zdif_nat hx hy, Int.toNat_natCast, Nat.testBit_and, Nat.testBit_xor]
  cases h : x.toNat.testBit a.toNat with
  | false => simp
  | true =>
    have h1 := tb_big (nn_tn hx) h
    have h2 : Nat.testBit 4294967295 a.toNat = true := by
      have : (4294967295 : Nat) = 2 ^ 32 - 1 := by decide
      rw [this, Nat.testBit_two_pow_sub_one]
      simp; omega
    rw [h2]; simp
theorem bt_zshl1 {a : Int} (ha : 0 ≤ a ∧ a < 31) {b : Int} (hb : 0 ≤ b) : bt (zshl 1 a) b = decide (a = b) := by
  unfold bt
  rw [zshl1 ha, Int.toNat_natCast, Nat.testBit_two_pow]
  by_cases h : a = b
  · subst h; simp
  · have : ¬ a.toNat = b.toNat := by omega
    simp [h, this]
theorem bt_0 (a : Int) : bt 0 a = false := by unfold bt; simp
/-- two such numbers with the same bits are one -/
theorem bt_ext {x y : Int} (hx : nn x) (hy : nn y) (h : ∀ a : Int, 0 ≤ a → a < 31 → bt x a = bt y a) : x = y := by
  have e : x.toNat = y.toNat := by
    apply Nat.eq_of_testBit_eq
    intro i
    rcases Nat.lt_or_ge i 31 with q | q
    · have := h i (by omega) (by omega)
      unfold bt at this
      rw [Int.toNat_natCast] at this
      exact this
    · rw [Nat.testBit_lt_two_pow (Nat.lt_of_lt_of_le (nn_tn hx) (Nat.pow_le_pow_right (n := 2) (by decide) q)), Nat.testBit_lt_two_pow (Nat.lt_of_lt_of_le (nn_tn hy) (Nat.pow_le_pow_right (n := 2) (by decide) q))]
  have := hx.1; have := hy.1
  omega
theorem zdif_0 {x y : Int} (hx : nn x) (hy : nn y) : zand x (zxor y (-1)) = 0 ↔ ∀ a : Int, 0 ≤ a → a < 31 → bt x a = true → bt y a = true := by
  constructor
  · intro h a h0 h1 hb
    have := bt_zdif hx hy a
    rw [h, bt_0, hb] at this
    simpa using this
  · intro h
    refine bt_ext (nn_zdif hx hy) ⟨by omega, by omega⟩ (fun a h0 h1 => ?_)
    rw [bt_zdif hx hy, bt_0]
    cases hb : bt x a with
    | false => rfl
    | true => rw [h a h0 h1 hb]; rfl
theorem zand_0 {x y : Int} (hx : nn x) (hy : nn y) : zand x y = 0 ↔ ∀ a : Int, 0 ≤ a → a < 31 → bt x a = true → bt y a = false := by
  constructor
  · intro h a h0 h1 hb
    have := bt_zand hx hy a
    rw [h, bt_0, hb] at this
    simpa using this.symm
  · intro h
    refine bt_ext (nn_zand hx hy) ⟨by omega, by omega⟩ (fun a h0 h1 => ?_)
    rw [bt_zand hx hy, bt_0]
    cases hb : bt x a with
    | false => rfl
    | true => rw [h a h0 h1 hb]; rfl
/-- bits below m alone -/
theorem bt_lt {x : Int} {m : Nat} (hx : 0 ≤ x) (h : x < ((2 ^ m : Nat) : Int)) {a : Int} (ha : bt x a = true) : a.toNat < m := by
  unfold bt at ha
  rcases Nat.lt_or_ge a.toNat m with q | q
  · exact q
  · have : x.toNat < 2 ^ a.toNat := Nat.lt_of_lt_of_le (by omega) (Nat.pow_le_pow_right (n := 2) (by decide) q)
    rw [Nat.testBit_lt_two_pow this] at ha
    cases ha
theorem lt_of_bt {x : Int} (hx : nn x) {m : Nat} (h : ∀ a : Int, 0 ≤ a → a < 31 → bt x a = true → a.toNat < m) : x < ((2 ^ m : Nat) : Int) := by
  have : x.toNat < 2 ^ m := by
    apply Nat.lt_pow_two_of_testBit
    intro i hi
    cases hb : x.toNat.testBit i with
    | false => rfl
    | true =>
      have h1 := tb_big (nn_tn hx) hb
      have h2 := h i (by omega) (by omega) (by unfold bt; rw [Int.toNat_natCast]; exact hb)
      rw [Int.toNat_natCast] at h2
      omega
  have := hx.1
  omega
