/-! ===== what the model's making calls write ===== -/
/-- the set of those below n with P -/
def mk (n : Int) (P : Int → Bool) : Int := foldZ n (fun x c => if P c then zor x (zshl 1 c) else x) 0
theorem mk_0 (P : Int → Bool) : mk 0 P = 0 := rfl
theorem mk_s {c : Int} (h : 0 ≤ c) (P : Int → Bool) : mk (c + 1) P = if P c then zor (mk c P) (zshl 1 c) else mk c P := foldZ_s h _ _
theorem mk_nn {n : Int} (hn : n ≤ 31) (P : Int → Bool) : nn (mk n P) := by
  refine foldZ_P (fun x => nn x) ⟨by omega, by omega⟩ (fun x c hx h0 h1 => ?_)
  split
  · exact nn_zor hx (nn_zshl1 ⟨h0, by omega⟩)
  · exact hx
theorem bt_mk {n : Int} (hn : n ≤ 31) (P : Int → Bool) {a : Int} (ha : 0 ≤ a) : bt (mk n P) a = (decide (a < n) && P a) := by
  have key : ∀ k : Nat, (k : Int) ≤ 31 → bt (mk (k : Int) P) a = (decide (a < (k : Int)) && P a) := by
    intro k
    induction k with
    | zero => intro _; rw [show ((0 : Nat) : Int) = 0 from rfl, mk_0, bt_0]; simp; intro h; omega
    | succ k ih =>
      intro hk
      rw [show ((k + 1 : Nat) : Int) = (k : Int) + 1 by omega, mk_s (by omega)]
      have ih := ih (by omega)
      split
      · rename_i hp
        rw [bt_zor (mk_nn (by omega) P) (nn_zshl1 ⟨by omega, by omega⟩), ih, bt_zshl1 ⟨by omega, by omega⟩ ha]
        by_cases hak : (k : Int) = a
        · subst hak; simp [hp]; omega
        · have : (a < (k : Int) + 1) ↔ a < (k : Int) := by omega
          simp [hak, this]
      · rename_i hp
        rw [ih]
        by_cases hak : (k : Int) = a
        · subst hak; simp [hp]
        · have : (a < (k : Int) + 1) ↔ a < (k : Int) := by omega
          simp [this]
  by_cases h0 : 0 ≤ n
  · have := key n.toNat (by omega)
    rw [show ((n.toNat : Nat) : Int) = n by omega] at this
    exact this
  · have e : mk n P = 0 := by unfold mk foldZ; rw [show n.toNat = 0 by omega]; rfl
    rw [e, bt_0]; simp; intro h; omega
theorem mk_lt {n : Int} (h : 0 ≤ n ∧ n ≤ 10) (P : Int → Bool) : 0 ≤ mk n P ∧ mk n P < 1024 := by
  have hnn := mk_nn (n := n) (by omega) P
  refine ⟨hnn.1, ?_⟩
  have := lt_of_bt hnn (m := 10) (fun a h0 h1 hb => by
    rw [bt_mk (by omega) P h0] at hb
    simp at hb
    omega)
  simpa using this
theorem mk_p2 {n : Int} (h : 0 ≤ n ∧ n ≤ 10) (P : Int → Bool) : mk n P < p2 n := by
  have hnn := mk_nn (n := n) (by omega) P
  rw [p2_eq h]
  exact lt_of_bt hnn (fun a h0 h1 hb => by
    rw [bt_mk (by omega) P h0] at hb
    simp at hb
    omega)
theorem p2_mono {a b : Int} (h : 0 ≤ a ∧ a ≤ b) (hb : b ≤ 10) : p2 a ≤ p2 b := by
  rw [p2_eq ⟨h.1, by omega⟩, p2_eq ⟨by omega, hb⟩]
  have : 2 ^ a.toNat ≤ 2 ^ b.toNat := Nat.pow_le_pow_right (by decide) (by omega)
  omega
theorem zor_0 {x : Int} (hx : nn x) : zor x 0 = x := by
  refine bt_ext (nn_zor hx ⟨by omega, by omega⟩) hx (fun a h0 h1 => ?_)
  rw [bt_zor hx ⟨by omega, by omega⟩, bt_0, Bool.or_false]
theorem lt10 {x : Int} (hx : nn x) (h : ∀ a : Int, 0 ≤ a → a < 31 → bt x a = true → a < 10) : x < 1024 := by
  have := lt_of_bt hx (m := 10) (fun a h0 h1 hb => by have := h a h0 h1 hb; omega)
  simpa using this
theorem bt10 {x : Int} (hx : 0 ≤ x ∧ x < 1024) {a : Int} (h : bt x a = true) : a.toNat < 10 := bt_lt (m := 10) hx.1 (by simpa using hx.2) h
theorem nn10 {x : Int} (hx : 0 ≤ x ∧ x < 1024) : nn x := ⟨hx.1, by omega⟩
theorem zor10 {x y : Int} (hx : 0 ≤ x ∧ x < 1024) (hy : 0 ≤ y ∧ y < 1024) : 0 ≤ zor x y ∧ zor x y < 1024 := by
  have h := nn_zor (nn10 hx) (nn10 hy)
  refine ⟨h.1, lt10 h (fun a h0 h1 hb => ?_)⟩
  rw [bt_zor (nn10 hx) (nn10 hy), Bool.or_eq_true] at hb
  rcases hb with q | q
  · have := bt10 hx q; omega
  · have := bt10 hy q; omega
theorem shl10 {a : Int} (ha : 0 ≤ a ∧ a < 10) : 0 ≤ zshl 1 a ∧ zshl 1 a < 1024 := by
  have h := nn_zshl1 (a := a) ⟨ha.1, by omega⟩
  refine ⟨h.1, lt10 h (fun b h0 h1 hb => ?_)⟩
  rw [bt_zshl1 ⟨ha.1, by omega⟩ h0] at hb
  simp at hb; omega
/-- the memory behind a new order of kind k with q things and sets f -/
def crM (M : MM) (k q : Int) (f : Int → Int) : MM := st2 (st2 (st2 (setA (st2 (st2 M 37 (M 36 0) k) 38 (M 36 0) q) 39 (fun j => if 10 * M 36 0 ≤ j ∧ j < 10 * M 36 0 + 10 then f (j - 10 * M 36 0) else M 39 j)) 36 0 (M 36 0 + 1)) 36 21 0) 36 12 0
theorem crM_39 (M : MM) (k q : Int) (f : Int → Int) (j : Int) : crM M k q f 39 j = if 10 * M 36 0 ≤ j ∧ j < 10 * M 36 0 + 10 then f (j - 10 * M 36 0) else M 39 j := by simp [crM, st2, setA]
theorem crM_38 (M : MM) (k q : Int) (f : Int → Int) (j : Int) : crM M k q f 38 j = if j = M 36 0 then q else M 38 j := by simp [crM, st2, setA]
theorem crM_37 (M : MM) (k q : Int) (f : Int → Int) (j : Int) : crM M k q f 37 j = if j = M 36 0 then k else M 37 j := by simp [crM, st2, setA]
theorem crM_36 (M : MM) (k q : Int) (f : Int → Int) (j : Int) : crM M k q f 36 j = if j = 12 then 0 else if j = 21 then 0 else if j = 0 then M 36 0 + 1 else M 36 j := by simp [crM, st2, setA]
theorem crM_off (M : MM) (k q : Int) (f : Int → Int) {x : Int} (h : ¬ (36 ≤ x ∧ x ≤ 39)) : crM M k q f x = M x := by
  funext j
  have h1 : x ≠ 36 := by omega
  have h2 : x ≠ 37 := by omega
  have h3 : x ≠ 38 := by omega
  have h4 : x ≠ 39 := by omega
  simp [crM, st2, setA, h1, h2, h3, h4]
theorem crM_congr {M : MM} {k q : Int} {f g : Int → Int} (h : ∀ e, 0 ≤ e → e < 10 → f e = g e) : crM M k q f = crM M k q g := by
  unfold crM
  congr 3
  funext x j
  unfold setA
  dsimp only
  split
  · split
    · exact h _ (by omega) (by omega)
    · rfl
  · rfl
theorem crM_st {M : MM} {k q c v : Int} {f : Int → Int} (hc : 0 ≤ c ∧ c < 10) : st2 (crM M k q f) 39 (10 * M 36 0 + c) v = crM M k q (fun b => if b = c then v else f b) := by
  funext x j
  by_cases hx : x = 39
  · subst hx
    unfold st2
    rw [if_pos rfl, crM_39, crM_39]
    by_cases hj : j = 10 * M 36 0 + c
    · rw [if_pos hj, if_pos (by omega), if_pos (by omega)]
    · rw [if_neg hj]
      split
      · rw [if_neg (by omega)]
      · rfl
  · rw [st2_ne _ hx]
    unfold crM st2 setA
    simp only [hx, if_false]
theorem mf_not : ∀ q ∈ mfL, q.1 ≠ 37 ∧ q.1 ≠ 38 ∧ q.1 ≠ 39 ∧ (q.1 = 36 → q.2.1 ≠ 12 ∧ q.2.1 ≠ 21 ∧ q.2.1 ≠ 0) := by decide
theorem WF.cr {K : KK} {M : MM} (h : WF K M) (k q : Int) (f : Int → Int) : WF K (crM M k q f) := by
  refine h.of (fun x hx => ?_)
  have hn := mf_not x hx
  by_cases h36 : x.1 = 36
  · have h2 := hn.2.2.2 h36
    rw [h36, crM_36, if_neg h2.1, if_neg h2.2.1, if_neg h2.2.2]
  · rw [crM_off M k q f (by omega)]
theorem MO.cr {K : KK} {M : MM} (h : MO K M) {k q : Int} {f : Int → Int} (hlt : M 36 0 < 8) (hq : 0 ≤ q ∧ q ≤ 10) (hf : ∀ e, 0 ≤ e → e < 10 → 0 ≤ f e ∧ f e < p2 q) : MO K (crM M k q f) := by
  have h0 := h.2.1
  have hp := p2_b hq
  refine ⟨h.1.cr k q f, by rw [crM_36]; simp; omega, fun o ho1 ho2 => ?_, fun i hi1 hi2 => ?_, fun o b ho1 ho2 hb1 hb2 => ?_⟩
  · rw [crM_38]; split
    · exact hq
    · exact h.2.2.1 o ho1 ho2
  · rw [crM_39]; split
    · have := hf (i - 10 * M 36 0) (by omega) (by omega); omega
    · exact h.2.2.2.1 i hi1 hi2
  · rw [crM_39, crM_38]
    by_cases ho : o = M 36 0
    · rw [if_pos (by omega), if_pos ho]; exact (hf _ (by omega) (by omega)).2
    · rw [if_neg (by omega), if_neg ho]; exact h.2.2.2.2 o b ho1 ho2 hb1 hb2
theorem AT.cr {K : KK} {M : MM} {o m : Int} {d : Int → Int} (h : AT K M o m d) {k q : Int} {f : Int → Int} (ho : o < M 36 0) (hlt : M 36 0 < 8) (hq : 0 ≤ q ∧ q ≤ 10) (hf : ∀ e, 0 ≤ e → e < 10 → 0 ≤ f e ∧ f e < p2 q) : MO K (crM M k q f) ∧ crM M k q f 38 o = m ∧ ∀ b, 0 ≤ b → b < 10 → crM M k q f 39 (10 * o + b) = d b := by
  refine ⟨h.1.cr hlt hq hf, by rw [crM_38, if_neg (by omega)]; exact h.sz, fun b h0 h1 => ?_⟩
  rw [crM_39, if_neg (by omega)]
  exact h.at b
/-- of an ORDER of the model, by its ten sets alone -/
def AX (K : KK) (M : MM) (o m : Int) (d : Int → Int) : Prop := MO K M ∧ (0 ≤ o ∧ o < 8) ∧ M 38 o = m ∧ ∀ b, 0 ≤ b → b < 10 → M 39 (10 * o + b) = d b
theorem AT.crx {K : KK} {M : MM} {o m : Int} {d : Int → Int} (h : AT K M o m d) {k q : Int} {f : Int → Int} (ho : o < M 36 0) (hlt : M 36 0 < 8) (hq : 0 ≤ q ∧ q ≤ 10) (hf : ∀ e, 0 ≤ e → e < 10 → 0 ≤ f e ∧ f e < p2 q) : AT K (crM M k q f) o m (dM (crM M k q f) o) ∧ ∀ b, 0 ≤ b → b < 10 → dM (crM M k q f) o b = d b := by
  have h1 := h.cr ho hlt hq hf (k := k)
  exact ⟨⟨h1.1, h.2.1, h1.2.1, rfl⟩, h1.2.2⟩
/-- double loops: for c, for e: the set of e gets c, if P c e -/
def dbl (q : Int) (P : Int → Int → Bool) (v w : Int) : Int → Int := fun e => if e < q then (if e < w then mk (v + 1) (fun c => P c e) else mk v (fun c => P c e)) else 0
theorem dbl_b {q v w : Int} {P : Int → Int → Bool} (hq : 0 ≤ q ∧ q ≤ 10) (hv : 0 ≤ v ∧ v < q) (e : Int) : 0 ≤ dbl q P v w e ∧ dbl q P v w e < p2 q := by
  have hp := p2_b hq
  unfold dbl
  split
  · split
    · have h1 := mk_p2 (n := v + 1) (by omega) (fun c => P c e); have h2 := mk_lt (n := v + 1) (by omega) (fun c => P c e); have h3 := p2_mono (a := v + 1) (b := q) (by omega) hq.2; omega
    · have h1 := mk_p2 (n := v) (by omega) (fun c => P c e); have h2 := mk_lt (n := v) (by omega) (fun c => P c e); have h3 := p2_mono (a := v) (b := q) (by omega) hq.2; omega
  · omega
theorem dbl_b0 {q v : Int} {P : Int → Int → Bool} (hq : 0 ≤ q ∧ q ≤ 10) (hv : 0 ≤ v ∧ v ≤ q) {e : Int} (he : 0 ≤ e) : 0 ≤ dbl q P v 0 e ∧ dbl q P v 0 e < p2 q := by
  have hp := p2_b hq
  unfold dbl
  split
  · rw [if_neg (by omega)]; have h1 := mk_p2 (n := v) (by omega) (fun c => P c e); have h2 := mk_lt (n := v) (by omega) (fun c => P c e); have h3 := p2_mono (a := v) (b := q) (by omega) hq.2; omega
  · omega
def dblF (q : Int) (P : Int → Int → Bool) : Int → Int := fun e => if e < q then mk q (fun c => P c e) else 0
theorem dblF_b {q : Int} {P : Int → Int → Bool} (hq : 0 ≤ q ∧ q ≤ 10) (e : Int) : 0 ≤ dblF q P e ∧ dblF q P e < p2 q := by
  have hp := p2_b hq
  unfold dblF
  split
  · have h1 := mk_p2 hq (fun c => P c e); have h2 := mk_lt hq (fun c => P c e); omega
  · omega
theorem rel_eq {d d' : Int → Int} (h : ∀ b, 0 ≤ b → b < 10 → d' b = d b) {a b : Int} (hb : 0 ≤ b ∧ b < 10) : rel d' a b = rel d a b := by unfold rel; rw [h b hb.1 hb.2]
def nO (M : MM) (k q c : Int) : MM := setA (st2 (st2 M 37 (M 36 0) k) 38 (M 36 0) q) 39 (fun j => if 10 * M 36 0 ≤ j ∧ j < 10 * M 36 0 + c then 0 else M 39 j)
theorem nO_0 (M : MM) (k q : Int) : st2 (st2 M 37 (M 36 0) k) 38 (M 36 0) q = nO M k q 0 := by
  funext x j
  unfold nO setA
  dsimp only
  split
  · rename_i h
    rw [if_neg (by omega), h]
    simp [st2]
  · rfl
theorem nO_s (M : MM) (k q : Int) {c : Int} (hc : 0 ≤ c) : st2 (nO M k q c) 39 (10 * M 36 0 + c) 0 = nO M k q (c + 1) := by
  unfold nO
  rw [st2_setA]
  congr 1
  funext j
  by_cases h1 : j = 10 * M 36 0 + c
  · rw [if_pos h1, if_pos (by omega)]
  · rw [if_neg h1]
    by_cases h2 : 10 * M 36 0 ≤ j ∧ j < 10 * M 36 0 + c
    · rw [if_pos h2, if_pos (by omega)]
    · rw [if_neg h2, if_neg (by omega)]
theorem nO_36 (M : MM) (k q c : Int) : nO M k q c 36 0 = M 36 0 := by simp [nO, setA, st2]
theorem WF.nO {K : KK} {M : MM} (h : WF K M) {k q c : Int} : WF K (nO M k q c) := WF.setA 39 rfl (WF.arr 38 rfl (WF.arr 37 rfl h))
/-- dbl, step by step -/
theorem dbl_0 (q : Int) (P : Int → Int → Bool) {e : Int} (he : 0 ≤ e) : (0 : Int) = dbl q P 0 0 e := by
  unfold dbl
  split
  · rw [if_neg (by omega), mk_0]
  · rfl
theorem dbl_t {q v w : Int} {P : Int → Int → Bool} (hw : 0 ≤ w ∧ w < q) (hv : 0 ≤ v ∧ v < 10) (e : Int) : (if e = w then (if P v w then zor (dbl q P v w w) (zshl 1 v) else zor (dbl q P v w w) 0) else dbl q P v w e) = dbl q P v (w + 1) e := by
  by_cases h : e = w
  · subst h
    have e1 : dbl q P v e e = mk v (fun c => P c e) := by unfold dbl; rw [if_pos hw.2, if_neg (by omega)]
    have e2 : dbl q P v (e + 1) e = mk (v + 1) (fun c => P c e) := by unfold dbl; rw [if_pos hw.2, if_pos (by omega)]
    rw [if_pos rfl, e1, e2, mk_s hv.1, zor_0 (mk_nn (n := v) (by omega) _)]
  · rw [if_neg h]
    unfold dbl
    split
    · by_cases h2 : e < w
      · rw [if_pos h2, if_pos (by omega)]
      · rw [if_neg h2, if_neg (by omega)]
    · rfl
theorem dbl_n {q v w : Int} {P : Int → Int → Bool} (hw : w = q) {e : Int} (he : 0 ≤ e) : dbl q P v w e = dbl q P (v + 1) 0 e := by
  unfold dbl
  split
  · rw [if_pos (by omega), if_neg (by omega)]
  · rfl
theorem dbl_e {q : Int} {P : Int → Int → Bool} {e : Int} (he : 0 ≤ e) : dbl q P q 0 e = dblF q P e := by
  unfold dbl dblF
  split
  · rw [if_neg (by omega)]
  · rfl
/-- told: a below b, with all that follows -/
def tlF (M : MM) (o a b c : Int) : Int → Int := fun j => if 10 * o ≤ j ∧ j < 10 * o + c ∧ (j = 10 * o + b ∨ rel (dM M o) b (j - 10 * o) = true) then zor (M 39 j) (zor (M 39 (10 * o + a)) (zshl 1 a)) else M 39 j
def tlM (M : MM) (o a b : Int) : MM := st2 (setA M 39 (tlF M o a b (M 38 o))) 36 21 0
theorem tlF_0 (M : MM) (o a b : Int) : M = setA M 39 (tlF M o a b 0) := by
  funext x j
  unfold setA tlF
  split
  · rename_i h
    rw [if_neg (by omega), h]
  · rfl
theorem MO.set39 {K : KK} {M : MM} (h : MO K M) {f : Int → Int} (hf : (∀ i, 0 ≤ i → i < 80 → 0 ≤ f i ∧ f i < 1024) ∧ ∀ o b, 0 ≤ o → o < 8 → 0 ≤ b → b < 10 → f (10 * o + b) < p2 (M 38 o)) : MO K (setA M 39 f) :=
  ⟨WF.setA 39 rfl h.1, by rw [setA_ne M (by decide)]; exact h.2.1, by rw [setA_ne M (by decide)]; exact h.2.2.1, by rw [setA_at]; exact hf.1, by rw [setA_at, setA_ne M (show (38 : Int) ≠ 39 by decide)]; exact hf.2⟩
theorem zor_p2 {x y m : Int} (hm : 0 ≤ m ∧ m ≤ 10) (hx : 0 ≤ x ∧ x < p2 m) (hy : 0 ≤ y ∧ y < p2 m) : 0 ≤ zor x y ∧ zor x y < p2 m := by
  have hp := p2_b hm
  have h1 : nn x := ⟨hx.1, by omega⟩
  have h2 : nn y := ⟨hy.1, by omega⟩
  have h := nn_zor h1 h2
  refine ⟨h.1, ?_⟩
  rw [p2_eq hm] at hx hy ⊢
  refine lt_of_bt h (fun a h0 h3 hb => ?_)
  rw [bt_zor h1 h2, Bool.or_eq_true] at hb
  rcases hb with q | q
  · exact bt_lt hx.1 hx.2 q
  · exact bt_lt hy.1 hy.2 q
theorem shl_p2 {a m : Int} (ha : 0 ≤ a ∧ a < m) (hm : m ≤ 10) : 0 ≤ zshl 1 a ∧ zshl 1 a < p2 m := by
  have h1 := shl10 (a := a) (by omega)
  refine ⟨h1.1, ?_⟩
  rw [zshl1 ⟨ha.1, by omega⟩, p2_eq ⟨by omega, hm⟩]
  have : 2 ^ a.toNat < 2 ^ m.toNat := Nat.pow_lt_pow_right (by decide) (by omega)
  omega
theorem tlF_b {K : KK} {M : MM} (h : MO K M) {o a b c : Int} (ho : 0 ≤ o ∧ o < 8) (ha : 0 ≤ a ∧ a < M 38 o) : (∀ i, 0 ≤ i → i < 80 → 0 ≤ tlF M o a b c i ∧ tlF M o a b c i < 1024) ∧ ∀ o' b', 0 ≤ o' → o' < 8 → 0 ≤ b' → b' < 10 → tlF M o a b (min c 10) (10 * o' + b') < p2 (M 38 o') := by
  have hsz := h.sz ho
  constructor
  · intro i h0 h1
    unfold tlF
    split
    · exact zor10 (h.set ⟨h0, h1⟩) (zor10 (h.set (by omega)) (shl10 (by omega)))
    · exact h.set ⟨h0, h1⟩
  · intro o' b' h1 h2 h3 h4
    unfold tlF
    split
    · rename_i hc
      have e : o' = o := by omega
      subst e
      exact (zor_p2 hsz ⟨(h.set (by omega)).1, h.2.2.2.2 _ _ h1 h2 h3 h4⟩ (zor_p2 hsz ⟨(h.set (by omega)).1, h.2.2.2.2 _ _ h1 h2 ha.1 (by omega)⟩ (shl_p2 ha hsz.2))).2
    · exact h.2.2.2.2 o' b' h1 h2 h3 h4
theorem tlF_c {K : KK} {M : MM} (h : MO K M) {o a b c : Int} (ho : 0 ≤ o ∧ o < 8) (ha : 0 ≤ a ∧ a < M 38 o) (hc : c ≤ 10) : (∀ i, 0 ≤ i → i < 80 → 0 ≤ tlF M o a b c i ∧ tlF M o a b c i < 1024) ∧ ∀ o' b', 0 ≤ o' → o' < 8 → 0 ≤ b' → b' < 10 → tlF M o a b c (10 * o' + b') < p2 (M 38 o') := by
  have := tlF_b h (b := b) (c := c) ho ha
  rw [show min c 10 = c by omega] at this
  exact this
theorem tlF_at (M : MM) (o a b : Int) {c e : Int} (he : 0 ≤ e ∧ c ≤ e) : tlF M o a b c (10 * o + e) = M 39 (10 * o + e) := by
  unfold tlF
  rw [if_neg (by omega)]
theorem tlF_s {K : KK} {M : MM} (hm : MO K M) {o a b c : Int} (ho : 0 ≤ o ∧ o < 8) (ha : 0 ≤ a ∧ a < 10) (hc : 0 ≤ c ∧ c < 10) (x : Int) (hx : x = if c = b ∨ rel (dM M o) b c = true then zor (M 39 (10 * o + a)) (zshl 1 a) else 0) : st2 (setA M 39 (tlF M o a b c)) 39 (10 * o + c) (zor (M 39 (10 * o + c)) x) = setA M 39 (tlF M o a b (c + 1)) := by
  rw [st2_setA]
  congr 1
  funext j
  by_cases h1 : j = 10 * o + c
  · subst h1
    rw [if_pos rfl, hx]
    unfold tlF
    rw [show 10 * o + c - 10 * o = c by omega]
    by_cases h2 : c = b ∨ rel (dM M o) b c = true
    · rw [if_pos h2, if_pos ⟨by omega, by omega, by rcases h2 with h | h; exact Or.inl (by omega); exact Or.inr h⟩]
    · rw [if_neg h2, if_neg (fun q => h2 (by rcases q.2.2 with h | h; exact Or.inl (by omega); exact Or.inr h)), zor_0 (hm.nn (by omega))]
  · rw [if_neg h1]
    unfold tlF
    by_cases h2 : 10 * o ≤ j ∧ j < 10 * o + c ∧ (j = 10 * o + b ∨ rel (dM M o) b (j - 10 * o) = true)
    · rw [if_pos h2, if_pos ⟨h2.1, by omega, h2.2.2⟩]
    · rw [if_neg h2, if_neg (fun q => h2 ⟨q.1, by omega, q.2.2⟩)]
theorem crM_38o (M : MM) (k q : Int) (f : Int → Int) : crM M k q f 38 (M 36 0) = q := by rw [crM_38, if_pos rfl]
theorem crM_39o (M : MM) (k q : Int) (f : Int → Int) {c : Int} (hc : 0 ≤ c ∧ c < 10) : crM M k q f 39 (10 * M 36 0 + c) = f c := by
  rw [crM_39, if_pos (by omega)]
  congr 1
  omega
theorem crM_dT {M : MM} {k q v w : Int} {P : Int → Int → Bool} (hw : 0 ≤ w ∧ w < q) (hq : q ≤ 10) (hv : 0 ≤ v ∧ v < 10) (hp : P v w = true) : st2 (crM M k q (dbl q P v w)) 39 (10 * M 36 0 + w) (zor (dbl q P v w w) (zshl 1 v)) = crM M k q (dbl q P v (w + 1)) := by
  rw [crM_st (by omega)]
  refine crM_congr (fun e h0 h1 => ?_)
  rw [← dbl_t hw hv e, if_pos hp]
theorem crM_dF {M : MM} {k q v w : Int} {P : Int → Int → Bool} (hw : 0 ≤ w ∧ w < q) (hq : q ≤ 10) (hv : 0 ≤ v ∧ v < 10) (hp : P v w = false) : st2 (crM M k q (dbl q P v w)) 39 (10 * M 36 0 + w) (zor (dbl q P v w w) 0) = crM M k q (dbl q P v (w + 1)) := by
  rw [crM_st (by omega)]
  refine crM_congr (fun e h0 h1 => ?_)
  rw [← dbl_t hw hv e]
  simp [hp]
theorem bt_zshl {x k : Int} (hx : 0 ≤ x ∧ x < 1024) (hk : 0 ≤ k ∧ k ≤ 10) {a : Int} (ha : 0 ≤ a) : bt (zshl x k) a = (decide (k ≤ a) && bt x (a - k)) := by
  have h1 : x.toNat <<< k.toNat < 2147483648 := by
    rw [Nat.shiftLeft_eq]
    have h2 : x.toNat < 1024 := by omega
    have h3 : 2 ^ k.toNat ≤ 2 ^ 10 := Nat.pow_le_pow_right (by decide) (by omega)
    calc x.toNat * 2 ^ k.toNat ≤ 1024 * 2 ^ 10 := Nat.mul_le_mul (by omega) h3
      _ < 2147483648 := by decide
  unfold bt
  rw [zshl_nat ⟨hx.1, by omega⟩ ⟨hk.1, by omega⟩ h1, Int.toNat_natCast, Nat.testBit_shiftLeft]
  by_cases h : k ≤ a
  · have h2 : k.toNat ≤ a.toNat := by omega
    simp [h, h2, show (a - k).toNat = a.toNat - k.toNat by omega]
  · have h2 : ¬ k.toNat ≤ a.toNat := by omega
    simp [h, h2]
theorem nn_zshl {x k : Int} (hx : 0 ≤ x ∧ x < 1024) (hk : 0 ≤ k ∧ k ≤ 10) : nn (zshl x k) := by
  have h1 : x.toNat <<< k.toNat < 2147483648 := by
    rw [Nat.shiftLeft_eq]
    have h2 : x.toNat < 1024 := by omega
    have h3 : 2 ^ k.toNat ≤ 2 ^ 10 := Nat.pow_le_pow_right (by decide) (by omega)
    calc x.toNat * 2 ^ k.toNat ≤ 1024 * 2 ^ 10 := Nat.mul_le_mul (by omega) h3
      _ < 2147483648 := by decide
  rw [zshl_nat ⟨hx.1, by omega⟩ ⟨hk.1, by omega⟩ h1]
  exact nn_c _ h1
theorem bt_p2m1 {m : Int} (hm : 0 ≤ m ∧ m ≤ 10) {a : Int} (ha : 0 ≤ a) : bt (p2 m - 1) a = decide (a < m) := by
  unfold bt
  have h2 : 0 < 2 ^ m.toNat := Nat.two_pow_pos _
  rw [p2_eq hm, show (((2 ^ m.toNat : Nat) : Int) - 1).toNat = 2 ^ m.toNat - 1 by omega, Nat.testBit_two_pow_sub_one]
  by_cases h : a < m
  · have : a.toNat < m.toNat := by omega
    simp [h, this]
  · have : ¬ a.toNat < m.toNat := by omega
    simp [h, this]
/-- the sets of two orders side by side, or (ab) one above the other -/
def sbF (m : Int) (d1 d2 : Int → Int) (ab : Bool) : Int → Int := fun c => if c < m then d1 c else zor (zshl (d2 (c - m)) m) (if ab then p2 m - 1 else 0)
theorem sbF_b {m1 m2 : Int} {d1 d2 : Int → Int} (h1 : OK m1 d1) (h2 : OK m2 d2) (hq : m1 + m2 ≤ 10) (ab : Bool) {c : Int} (hc : 0 ≤ c ∧ c < 10) : 0 ≤ sbF m1 d1 d2 ab c ∧ sbF m1 d1 d2 ab c < p2 (m1 + m2) := by
  have hm1 := h1.1
  have hm2 := h2.1
  have hp := p2_b hm1
  have hp2 := p2_mono (a := m1) (b := m1 + m2) (by omega) hq
  unfold sbF
  split
  · have := h1.2.1 c hc.1 hc.2; have := h1.2.2 c hc.1 hc.2; omega
  · have g1 := h2.2.1 (c - m1) (by omega) (by omega)
    have g2 := h2.2.2 (c - m1) (by omega) (by omega)
    have n1 := nn_zshl g1 hm1
    have n2 : nn (if ab then p2 m1 - 1 else 0) := by split; exact ⟨by omega, by omega⟩; exact ⟨by omega, by omega⟩
    have n3 := nn_zor n1 n2
    refine ⟨n3.1, ?_⟩
    rw [p2_eq ⟨by omega, hq⟩]
    refine lt_of_bt n3 (fun a h0 h31 hb => ?_)
    rw [bt_zor n1 n2, Bool.or_eq_true, bt_zshl g1 hm1 h0] at hb
    rcases hb with hb | hb
    · simp only [Bool.and_eq_true, decide_eq_true_eq] at hb
      have := bt_lt (m := m2.toNat) g1.1 (by rw [← p2_eq hm2]; exact g2) hb.2
      omega
    · split at hb
      · rw [bt_p2m1 hm1 h0] at hb; simp at hb; omega
      · rw [bt_0] at hb; cases hb
theorem lowI_congr {m : Int} {d d' : Int → Int} (hm : m ≤ 10) (h : ∀ b, 0 ≤ b → b < 10 → d' b = d b) (i : Int) : lowI m d' i = lowI m d i := by
  have e : low m d' = low m d := by
    funext s
    unfold low
    exact allB_congr (fun c h0 h1 => by rw [h c h0 (by omega)])
  unfold lowI
  rw [e]
def tmP (n : Int) (d1 d2 : Int → Int) (c e : Int) : Bool := decide (c ≠ e) && (decide (c / n = e / n) || rel d1 (c / n) (e / n)) && (decide (c % n = e % n) || rel d2 (c % n) (e % n))
def hdP (m : Int) (d : Int → Int) (c e : Int) : Bool := decide (c ≠ e) && sub (lowI m d c) (lowI m d e)
theorem nth_in {n : Int} {P : Int → Bool} {s i : Int} (h0 : 0 ≤ s) (h : nth n P s i ≠ -1) : s ≤ nth n P s i ∧ nth n P s i < n ∧ P (nth n P s i) = true := by
  have key : ∀ (k : Nat) (s i : Int), (n - s).toNat = k → 0 ≤ s → nth n P s i ≠ -1 → s ≤ nth n P s i ∧ nth n P s i < n ∧ P (nth n P s i) = true := by
    intro k
    induction k with
    | zero => intro s i hk _ h; exact absurd (nth_e (by omega) P i) h
    | succ k ih =>
      intro s i hk h0 h
      rw [nth_s (by omega)] at h ⊢
      by_cases hi : i < 0
      · rw [if_pos hi] at h; exact absurd rfl h
      · rw [if_neg hi] at h ⊢
        by_cases hp : P s = true
        · rw [if_pos hp] at h ⊢
          by_cases hz : i = 0
          · rw [if_pos hz]; exact ⟨by omega, by omega, hp⟩
          · rw [if_neg hz] at h ⊢
            have := ih (s + 1) (i + -1) (by omega) (by omega) h
            exact ⟨by omega, this.2⟩
        · rw [if_neg hp] at h ⊢
          have := ih (s + 1) i (by omega) (by omega) h
          exact ⟨by omega, this.2⟩
  exact key _ s i rfl h0 h
/-- as many as there are -/
theorem nth_ex {n : Int} {P : Int → Bool} : ∀ (k : Nat) (s i : Int), (n - s).toNat = k → 0 ≤ s → s ≤ n → 0 ≤ i → i < sumZ n (fun a => B (P a)) - sumZ s (fun a => B (P a)) → nth n P s i ≠ -1 := by
  intro k
  induction k with
  | zero => intro s i hk h0 h1 hi h; rw [show s = n by omega] at h; omega
  | succ k ih =>
    intro s i hk h0 h1 hi h
    rw [nth_s (by omega), if_neg (by omega)]
    have e := sumZ_s h0 (fun a => B (P a))
    by_cases hp : P s = true
    · rw [if_pos hp]
      rw [hp] at e
      have e1 : B true = 1 := rfl
      by_cases hz : i = 0
      · rw [if_pos hz]; omega
      · rw [if_neg hz]
        exact ih (s + 1) (i + -1) (by omega) (by omega) (by omega) (by omega) (by omega)
    · rw [if_neg hp]
      have hp' : P s = false := by simpa using hp
      rw [hp'] at e
      have e1 : B false = 0 := rfl
      exact ih (s + 1) i (by omega) (by omega) (by omega) hi (by omega)
/-- the i-th thing of a set -/
def pk (s i : Int) : Int := nth 10 (bt s) 0 i
theorem pki_in {s i : Int} (h : 0 ≤ i ∧ i < cnt s) : 0 ≤ pk s i ∧ pk s i < 10 ∧ bt s (pk s i) = true := nth_in (by omega) (nth_ex _ 0 i rfl (by omega) (by omega) h.1 (by rw [sumZ_0]; unfold cnt at h; omega))
theorem pki_ne {s i : Int} (h : 0 ≤ i ∧ i < cnt s) : pk s i ≠ -1 := by have := pki_in h; omega
theorem crM_39n (M : MM) (k q : Int) (f : Int → Int) {j : Int} (hj : j < 10 * M 36 0) : crM M k q f 39 j = M 39 j := by rw [crM_39, if_neg (by omega)]
theorem sbF_lo {m : Int} {d1 d2 : Int → Int} {ab : Bool} {c : Int} (h : c < m) : sbF m d1 d2 ab c = d1 c := if_pos h
theorem sbF_hi {m : Int} {d1 d2 : Int → Int} {ab : Bool} {c : Int} (h : ¬ c < m) : sbF m d1 d2 ab c = zor (zshl (d2 (c - m)) m) (if ab then p2 m - 1 else 0) := if_neg h
