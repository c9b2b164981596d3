/-! ===== what the making calls make, in both ===== -/
theorem told_eq {m : Int} {d : Int → Int} (hP : PO m d) (kd w : Int) : toldC kd m d w = toldR kd m d w := by
  unfold toldC toldR truR
  rw [lowNC_eq hP, hgt_eq hP, lj_eq hP, bent_eq hP.1.1, gr_tw hP]
theorem PO.ext {m : Int} {d f : Int → Int} (h : PO m d) (he : ∀ y, 0 ≤ y → y < 10 → d y = f y) : PO m f := by
  have hm := h.1.1
  have hr : ∀ a b, 0 ≤ b → b < m → rel f a b = rel d a b := fun a b b0 b1 => by unfold rel; rw [he b b0 (by omega)]
  refine ⟨⟨hm, fun b b0 b1 => by rw [← he b b0 b1]; exact h.1.2.1 b b0 b1, fun b b0 b1 => by rw [← he b b0 b1]; exact h.1.2.2 b b0 b1⟩, fun a a0 a1 => by rw [hr a a a0 a1]; exact h.2.1 a a0 a1, fun a b c a0 a1 b0 b1 c0 c1 h1 h2 => ?_⟩
  rw [hr a b b0 b1] at h1
  rw [hr b c c0 c1] at h2
  rw [hr a c c0 c1]
  exact h.2.2 a b c a0 a1 b0 b1 c0 c1 h1 h2
/-- sets with the same pairs and nothing beyond -/
theorem set_eq {q : Int} {D f : Int → Int} {R : Int → Int → Bool} (hD : OK q D) (hf : OK q f) (h1 : ∀ x y, 0 ≤ x → x < q → 0 ≤ y → y < q → rel D x y = R x y) (h2 : ∀ x y, 0 ≤ x → x < q → 0 ≤ y → y < q → rel f x y = R x y) (z1 : ∀ y, q ≤ y → y < 10 → D y = 0) (z2 : ∀ y, q ≤ y → y < 10 → f y = 0) : ∀ y, 0 ≤ y → y < 10 → D y = f y := by
  intro y y0 y1
  rcases Int.lt_or_le y q with w | w
  · exact d_ext hD hf (fun x y x0 x1 y0 y1 => by rw [h1 x y x0 x1 y0 y1, h2 x y x0 x1 y0 y1]) ⟨y0, w⟩
  · rw [z1 y w y1, z2 y w y1]
/-- sets that make an order of what R says -/
def MKS (q : Int) (f : Int → Int) (R : Int → Int → Bool) : Prop := PO q f ∧ (∀ x y, 0 ≤ x → x < q → 0 ≤ y → y < q → rel f x y = R x y) ∧ ∀ y, q ≤ y → y < 10 → f y = 0
theorem mks_of {q : Int} {f : Int → Int} {R : Int → Int → Bool} (hO : OK q f) (hr : ∀ x y, 0 ≤ x → x < q → 0 ≤ y → y < q → rel f x y = R x y) (hz : ∀ y, q ≤ y → y < 10 → f y = 0) (hi : ∀ x, 0 ≤ x → x < q → R x x = false) (ht : ∀ x y z, 0 ≤ x → x < q → 0 ≤ y → y < q → 0 ≤ z → z < q → R x y = true → R y z = true → R x z = true) : MKS q f R :=
  ⟨⟨hO, fun a a0 a1 => by rw [hr a a a0 a1 a0 a1]; exact hi a a0 a1, fun a b c a0 a1 b0 b1 c0 c1 h1 h2 => by
    rw [hr a b a0 a1 b0 b1] at h1
    rw [hr b c b0 b1 c0 c1] at h2
    rw [hr a c a0 a1 c0 c1]
    exact ht a b c a0 a1 b0 b1 c0 c1 h1 h2⟩, hr, hz⟩
theorem ok_zero {q : Int} (hq : 0 ≤ q ∧ q ≤ 10) : OK q (fun _ => 0) := by
  have := p2_b hq
  exact ⟨hq, fun _ _ _ => (show (0 : Int) ≤ 0 ∧ (0 : Int) < 1024 by omega), fun _ _ _ => (show (0 : Int) < p2 q by omega)⟩
theorem ok_dbl {q : Int} {P : Int → Int → Bool} (hq : 0 ≤ q ∧ q ≤ 10) : OK q (dblF q P) := by
  have := p2_b hq
  exact ⟨hq, fun b _ _ => by have := dblF_b (P := P) hq b; omega, fun b _ _ => (dblF_b hq b).2⟩
theorem rel_dbl {q : Int} {P : Int → Int → Bool} (hq : 0 ≤ q ∧ q ≤ 10) {x y : Int} (hx : 0 ≤ x ∧ x < q) (hy : y < q) : rel (dblF q P) x y = P x y := by
  unfold rel dblF
  rw [if_pos hy, bt_mk (by omega) _ hx.1, decide_eq_true hx.2, Bool.true_and]
theorem dbl_hi {q : Int} {P : Int → Int → Bool} {y : Int} (hy : q ≤ y) : dblF q P y = 0 := if_neg (by omega)
theorem dbX_id {q : Int} {P : Int → Int → Bool} {x y : Int} (hx : 0 ≤ x ∧ x < q) (hy : 0 ≤ y ∧ y < q) : dbX q q P (fun a _ => a) (fun _ b => b) x y = P x y := by
  unfold dbX
  rw [Bool.eq_iff_iff, exB_iff]
  constructor
  · rintro ⟨a, a0, a1, h⟩
    obtain ⟨b, b0, b1, h2⟩ := exB_iff.mp h
    rw [Bool.and_eq_true, Bool.and_eq_true, decide_eq_true_eq, decide_eq_true_eq] at h2
    rw [h2.2.1, h2.2.2]; exact h2.1
  · intro h
    exact ⟨x, hx.1, hx.2, exB_iff.mpr ⟨y, hy.1, hy.2, by rw [h, decide_eq_true rfl, decide_eq_true rfl]; rfl⟩⟩
theorem mks_order {q : Int} (hq : 0 ≤ q ∧ q ≤ 10) : MKS q (fun _ => 0) (fun _ _ => false) :=
  mks_of (ok_zero hq) (fun x y _ _ _ _ => rel_0 x y) (fun _ _ _ => rfl) (fun _ _ _ => rfl) (fun _ _ _ _ _ _ _ _ _ h _ => h)
theorem mks_row {q : Int} (hq : 0 ≤ q ∧ q ≤ 10) : MKS q (fun b => if b < q then zshl 1 b - 1 else 0) (fun x y => decide (x < y)) := by
  have hp := p2_b hq
  have hb : ∀ b, 0 ≤ b → b < q → 0 ≤ zshl 1 b - 1 ∧ zshl 1 b - 1 < p2 q := fun b b0 b1 => by
    have h1 := p2_b (m := b) ⟨b0, by omega⟩
    have h2 := p2_mono (a := b) (b := q) ⟨b0, by omega⟩ hq.2
    rw [zshl_p2]; omega
  refine mks_of ⟨hq, fun b b0 b1 => ?_, fun b b0 b1 => ?_⟩ (fun x y x0 x1 y0 y1 => ?_) (fun y y0 _ => if_neg (by omega)) (fun x _ _ => by simp) (fun x y z _ _ _ _ _ _ h1 h2 => ?_)
  · show 0 ≤ (if b < q then _ else _) ∧ (if b < q then _ else _) < (1024 : Int)
    split
    · rename_i h; have := hb b b0 h; omega
    · omega
  · show (if b < q then _ else _) < p2 q
    split
    · rename_i h; exact (hb b b0 h).2
    · omega
  · show bt (if y < q then zshl 1 y - 1 else 0) x = decide (x < y)
    rw [if_pos y1, zshl_p2, bt_p2m1 ⟨y0, by omega⟩ x0]
  · rw [decide_eq_true_eq] at h1 h2 ⊢; omega
theorem mks_dual {m : Int} {d : Int → Int} (hP : PO m d) : MKS m (dblF m (fun c e => rel d e c)) (dbX m m (fun a b => rel d a b) (fun _ b => b) (fun a _ => a)) := by
  have hm := hP.1.1
  have hR : ∀ x y, 0 ≤ x → x < m → 0 ≤ y → y < m → dbX m m (fun a b => rel d a b) (fun _ b => b) (fun a _ => a) x y = rel d y x := by
    intro x y x0 x1 y0 y1
    unfold dbX
    rw [Bool.eq_iff_iff, exB_iff]
    constructor
    · rintro ⟨a, a0, a1, h⟩
      obtain ⟨b, b0, b1, h2⟩ := exB_iff.mp h
      rw [Bool.and_eq_true, Bool.and_eq_true, decide_eq_true_eq, decide_eq_true_eq] at h2
      rw [h2.2.1, h2.2.2]; exact h2.1
    · intro h
      exact ⟨y, y0, y1, exB_iff.mpr ⟨x, x0, x1, by dsimp only; rw [h, decide_eq_true rfl, decide_eq_true rfl]; rfl⟩⟩
  refine mks_of (ok_dbl hm) (fun x y x0 x1 y0 y1 => ?_) (fun y y0 _ => dbl_hi y0) (fun x x0 x1 => ?_) (fun x y z x0 x1 y0 y1 z0 z1 h1 h2 => ?_)
  · rw [rel_dbl hm ⟨x0, x1⟩ y1, hR x y x0 x1 y0 y1]
  · rw [hR x x x0 x1 x0 x1]; exact hP.2.1 x x0 x1
  · rw [hR x y x0 x1 y0 y1] at h1
    rw [hR y z y0 y1 z0 z1] at h2
    rw [hR x z x0 x1 z0 z1]
    exact hP.2.2 z y x z0 z1 y0 y1 x0 x1 h2 h1
theorem nth_inv {n : Int} {P : Int → Bool} : ∀ (k : Nat) (s i : Int), (n - s).toNat = k → 0 ≤ s → nth n P s i ≠ -1 → sumZ (nth n P s i) (fun a => B (P a)) = sumZ s (fun a => B (P a)) + i := by
  intro k
  induction k with
  | zero => intro s i hk _ h; exact absurd (nth_e (by omega) P i) h
  | succ k ih =>
    intro s i hk h0 h
    rw [nth_s (by omega)] at h ⊢
    have e := sumZ_s h0 (fun a => B (P a))
    by_cases hi : i < 0
    · rw [if_pos hi] at h; exact absurd rfl h
    · rw [if_neg hi] at h ⊢
      by_cases hp : P s = true
      · rw [if_pos hp] at h ⊢
        rw [hp] at e
        have e1 : B true = 1 := rfl
        by_cases hz : i = 0
        · rw [if_pos hz]; omega
        · rw [if_neg hz] at h ⊢
          have := ih (s + 1) (i + -1) (by omega) (by omega) h
          omega
      · rw [if_neg hp] at h ⊢
        have hp' : P s = false := by simpa using hp
        rw [hp'] at e
        have e1 : B false = 0 := rfl
        have := ih (s + 1) i (by omega) (by omega) h
        omega
theorem sub_tr {x y z : Int} (hx : nn x) (hy : nn y) (hz : nn z) (h1 : sub x y = true) (h2 : sub y z = true) : sub x z = true := by
  rw [sub_iff hx hy] at h1
  rw [sub_iff hy hz] at h2
  rw [sub_iff hx hz]
  exact fun a a0 a1 ha => h2 a a0 a1 (h1 a a0 a1 ha)
theorem sub_as {x y : Int} (hx : nn x) (hy : nn y) (h1 : sub x y = true) (h2 : sub y x = true) : x = y := by
  rw [sub_iff hx hy] at h1
  rw [sub_iff hy hx] at h2
  refine bt_ext hx hy (fun a a0 a1 => ?_)
  cases ha : bt x a with
  | true => rw [h1 a a0 a1 ha]
  | false =>
    cases hb : bt y a with
    | false => rfl
    | true => rw [h2 a a0 a1 hb] at ha; cases ha
theorem mks_held {m : Int} {d : Int → Int} (hP : PO m d) (hl : lowN m d ≤ 10) : MKS (lowN m d) (dblF (lowN m d) (hdP m d)) (dbX (lowN m d) (lowN m d) (fun a b => decide (a ≠ b) && sub (nth (p2 m) (wyP m d) 0 a) (nth (p2 m) (wyP m d) 0 b)) (fun a _ => a) (fun _ b => b)) := by
  have hm := hP.1.1
  have hp := p2_b hm
  have h0 : 0 ≤ lowN m d := (sumZ_b01 (by omega) _).1
  have hin : ∀ i, 0 ≤ i → i < lowN m d → lowI m d i ≠ -1 := fun i i0 i1 => nth_ex _ 0 i rfl (by omega) (by omega) i0 (by rw [sumZ_0]; unfold lowN at i1; omega)
  have hnn : ∀ i, 0 ≤ i → i < lowN m d → nn (lowI m d i) := fun i i0 i1 => by
    have := nth_in (n := p2 m) (P := low m d) (s := 0) (i := i) (by omega) (hin i i0 i1)
    have h2 : lowI m d i < p2 m := this.2.1
    have h3 : 0 ≤ lowI m d i := this.1
    exact ⟨h3, by omega⟩
  have hinj : ∀ i j, 0 ≤ i → i < lowN m d → 0 ≤ j → j < lowN m d → lowI m d i = lowI m d j → i = j := by
    intro i j i0 i1 j0 j1 he
    have a := nth_inv (n := p2 m) (P := low m d) _ 0 i rfl (by omega) (hin i i0 i1)
    have b := nth_inv (n := p2 m) (P := low m d) _ 0 j rfl (by omega) (hin j j0 j1)
    have he' : nth (p2 m) (low m d) 0 i = nth (p2 m) (low m d) 0 j := he
    rw [he'] at a
    omega
  have hR : ∀ x y, 0 ≤ x → x < lowN m d → 0 ≤ y → y < lowN m d → dbX (lowN m d) (lowN m d) (fun a b => decide (a ≠ b) && sub (nth (p2 m) (wyP m d) 0 a) (nth (p2 m) (wyP m d) 0 b)) (fun a _ => a) (fun _ b => b) x y = hdP m d x y := by
    intro x y x0 x1 y0 y1
    rw [dbX_id ⟨x0, x1⟩ ⟨y0, y1⟩, nth_low hP, nth_low hP]
    rfl
  refine mks_of (ok_dbl ⟨h0, hl⟩) (fun x y x0 x1 y0 y1 => ?_) (fun y y0 _ => dbl_hi y0) (fun x x0 x1 => ?_) (fun x y z x0 x1 y0 y1 z0 z1 h1 h2 => ?_)
  · rw [rel_dbl ⟨h0, hl⟩ ⟨x0, x1⟩ y1, hR x y x0 x1 y0 y1]
  · rw [hR x x x0 x1 x0 x1]; unfold hdP; simp
  · rw [hR x y x0 x1 y0 y1] at h1
    rw [hR y z y0 y1 z0 z1] at h2
    rw [hR x z x0 x1 z0 z1]
    unfold hdP at h1 h2 ⊢
    rw [Bool.and_eq_true, decide_eq_true_eq] at h1 h2 ⊢
    refine ⟨fun q => ?_, sub_tr (hnn x x0 x1) (hnn y y0 y1) (hnn z z0 z1) h1.2 h2.2⟩
    rw [← q] at h2
    exact h1.1 (hinj x y x0 x1 y0 y1 (sub_as (hnn x x0 x1) (hnn y y0 y1) h1.2 h2.2))
theorem mks_part {m : Int} {d : Int → Int} (hP : PO m d) {s : Int} (hs : 0 ≤ s ∧ s < p2 m) : MKS (cnt s) (dblF (cnt s) (fun c e => rel d (pk s c) (pk s e))) (dbX (cnt s) (cnt s) (fun a b => rel d (pk s a) (pk s b)) (fun a _ => a) (fun _ b => b)) := by
  have hm := hP.1.1
  have hc := cnt_b s
  refine mks_of (ok_dbl hc) (fun x y x0 x1 y0 y1 => ?_) (fun y y0 _ => dbl_hi y0) (fun x x0 x1 => ?_) (fun x y z x0 x1 y0 y1 z0 z1 h1 h2 => ?_)
  · rw [rel_dbl hc ⟨x0, x1⟩ y1, dbX_id ⟨x0, x1⟩ ⟨y0, y1⟩]
  · have h := pkm_lt hm hs ⟨x0, x1⟩
    rw [dbX_id ⟨x0, x1⟩ ⟨x0, x1⟩]; exact hP.2.1 _ h.1 h.2
  · rw [dbX_id ⟨x0, x1⟩ ⟨y0, y1⟩] at h1
    rw [dbX_id ⟨y0, y1⟩ ⟨z0, z1⟩] at h2
    rw [dbX_id ⟨x0, x1⟩ ⟨z0, z1⟩]
    have hx := pkm_lt hm hs ⟨x0, x1⟩
    have hy := pkm_lt hm hs ⟨y0, y1⟩
    have hz := pkm_lt hm hs ⟨z0, z1⟩
    exact hP.2.2 _ _ _ hx.1 hx.2 hy.1 hy.2 hz.1 hz.2 h1 h2
theorem ok_sb {m1 m2 : Int} {d1 d2 : Int → Int} (h1 : OK m1 d1) (h2 : OK m2 d2) (hq : m1 + m2 ≤ 10) (ab : Bool) : OK (m1 + m2) (fun b => if b < m1 + m2 then sbF m1 d1 d2 ab b else 0) := by
  have hm1 := h1.1
  have hm2 := h2.1
  have hp := p2_b (m := m1 + m2) ⟨by omega, hq⟩
  have hb : ∀ b, 0 ≤ b → b < 10 → 0 ≤ (if b < m1 + m2 then sbF m1 d1 d2 ab b else 0) ∧ (if b < m1 + m2 then sbF m1 d1 d2 ab b else 0) < p2 (m1 + m2) := fun b b0 b1 => by
    split
    · exact sbF_b h1 h2 hq ab ⟨b0, b1⟩
    · omega
  exact ⟨⟨by omega, hq⟩, fun b b0 b1 => ⟨(hb b b0 b1).1, Int.lt_of_lt_of_le (hb b b0 b1).2 hp.2⟩, fun b b0 b1 => (hb b b0 b1).2⟩
def sbR (m1 : Int) (d1 d2 : Int → Int) (ab : Bool) (x y : Int) : Bool := if y < m1 then (decide (x < m1) && rel d1 x y) else if x < m1 then ab else rel d2 (x - m1) (y - m1)
theorem rel_sb {m1 m2 : Int} {d1 d2 : Int → Int} (h1 : OK m1 d1) (h2 : OK m2 d2) (hq : m1 + m2 ≤ 10) (ab : Bool) {x y : Int} (hx : 0 ≤ x ∧ x < m1 + m2) (hy : 0 ≤ y ∧ y < m1 + m2) : rel (fun b => if b < m1 + m2 then sbF m1 d1 d2 ab b else 0) x y = sbR m1 d1 d2 ab x y := by
  have hm1 := h1.1
  have hm2 := h2.1
  have hp := p2_b hm1
  show bt (if y < m1 + m2 then sbF m1 d1 d2 ab y else 0) x = _
  rw [if_pos hy.2]
  unfold sbR
  by_cases hym : y < m1
  · rw [sbF_lo hym, if_pos hym]
    cases hr : bt (d1 y) x with
    | false => rw [show rel d1 x y = false from hr]; simp
    | true => rw [show rel d1 x y = true from hr, decide_eq_true (rel_lt h1 (a := x) (b := y) ⟨hy.1, by omega⟩ hr)]; rfl
  · have g1 := h2.2.1 (y - m1) (by omega) (by omega)
    have n1 := nn_zshl g1 hm1
    have n2 : nn (if ab then p2 m1 - 1 else 0) := by split; exact ⟨by omega, by omega⟩; exact ⟨by omega, by omega⟩
    rw [sbF_hi hym, if_neg hym, bt_zor n1 n2, bt_zshl g1 hm1 hx.1]
    by_cases hxm : x < m1
    · rw [if_pos hxm, decide_eq_false (by omega), Bool.false_and, Bool.false_or]
      cases ab with
      | true => rw [if_pos rfl, bt_p2m1 hm1 hx.1, decide_eq_true hxm]
      | false => rw [if_neg (by decide), bt_0]
    · rw [if_neg hxm, decide_eq_true (by omega), Bool.true_and]
      have : bt (if ab then p2 m1 - 1 else 0) x = false := by
        cases ab with
        | true => rw [if_pos rfl, bt_p2m1 hm1 hx.1, decide_eq_false hxm]
        | false => rw [if_neg (by decide), bt_0]
      rw [this, Bool.or_false]
      rfl
theorem mks_sb {m1 m2 : Int} {d1 d2 : Int → Int} (h1 : PO m1 d1) (h2 : PO m2 d2) (hq : m1 + m2 ≤ 10) (ab : Bool) {R : Int → Int → Bool} (hR : ∀ x y, 0 ≤ x → x < m1 + m2 → 0 ≤ y → y < m1 + m2 → R x y = sbR m1 d1 d2 ab x y) : MKS (m1 + m2) (fun b => if b < m1 + m2 then sbF m1 d1 d2 ab b else 0) R := by
  refine mks_of (ok_sb h1.1 h2.1 hq ab) (fun x y x0 x1 y0 y1 => by rw [rel_sb h1.1 h2.1 hq ab ⟨x0, x1⟩ ⟨y0, y1⟩, hR x y x0 x1 y0 y1]) (fun y y0 _ => if_neg (by omega)) (fun x x0 x1 => ?_) (fun x y z x0 x1 y0 y1 z0 z1 g1 g2 => ?_)
  · rw [hR x x x0 x1 x0 x1]
    unfold sbR
    by_cases h : x < m1
    · rw [if_pos h, h1.2.1 x x0 h]; simp
    · rw [if_neg h, if_neg h, h2.2.1 (x - m1) (by omega) (by omega)]
  · rw [hR x y x0 x1 y0 y1] at g1
    rw [hR y z y0 y1 z0 z1] at g2
    rw [hR x z x0 x1 z0 z1]
    unfold sbR at g1 g2 ⊢
    by_cases hz : z < m1
    · rw [if_pos hz, Bool.and_eq_true, decide_eq_true_eq] at g2
      rw [if_pos g2.1, Bool.and_eq_true, decide_eq_true_eq] at g1
      rw [if_pos hz, decide_eq_true g1.1]
      exact h1.2.2 x y z x0 g1.1 y0 g2.1 z0 hz g1.2 g2.2
    · rw [if_neg hz] at g2 ⊢
      by_cases hy : y < m1
      · rw [if_pos hy] at g1 g2
        rw [Bool.and_eq_true, decide_eq_true_eq] at g1
        rw [if_pos g1.1]; exact g2
      · rw [if_neg hy] at g1 g2
        by_cases hx : x < m1
        · rw [if_pos hx] at g1 ⊢; exact g1
        · rw [if_neg hx] at g1 ⊢
          exact h2.2.2 (x - m1) (y - m1) (z - m1) (by omega) (by omega) (by omega) (by omega) (by omega) (by omega) g1 g2
theorem mks_beside {m1 m2 : Int} {d1 d2 : Int → Int} (h1 : PO m1 d1) (h2 : PO m2 d2) (hq : m1 + m2 ≤ 10) : MKS (m1 + m2) (fun b => if b < m1 + m2 then sbF m1 d1 d2 false b else 0) (fun x y => cpX 0 m1 d1 x y || cpX m1 m2 d2 x y) := by
  refine mks_sb h1 h2 hq false (fun x y x0 x1 y0 y1 => ?_)
  unfold cpX sbR
  rw [Int.sub_zero, Int.sub_zero, Int.zero_add]
  by_cases hy : y < m1
  · rw [if_pos hy, decide_eq_true x0, decide_eq_true y0, decide_eq_true hy, decide_eq_false (show ¬ m1 ≤ y by omega)]
    simp
  · rw [if_neg hy, decide_eq_false hy]
    by_cases hx : x < m1
    · rw [if_pos hx, decide_eq_false (show ¬ m1 ≤ x by omega)]; simp
    · rw [if_neg hx, decide_eq_true (show m1 ≤ x by omega), decide_eq_true x1, decide_eq_true (show m1 ≤ y by omega), decide_eq_true y1]; simp
theorem mks_stack {m1 m2 : Int} {d1 d2 : Int → Int} (h1 : PO m1 d1) (h2 : PO m2 d2) (hq : m1 + m2 ≤ 10) : MKS (m1 + m2) (fun b => if b < m1 + m2 then sbF m1 d1 d2 true b else 0) (fun x y => (cpX 0 m1 d1 x y || cpX m1 m2 d2 x y) || dbX m1 (m1 + m2) (fun _ b => decide (m1 ≤ b)) (fun a _ => a) (fun _ b => b) x y) := by
  refine mks_sb h1 h2 hq true (fun x y x0 x1 y0 y1 => ?_)
  have hd : dbX m1 (m1 + m2) (fun _ b => decide (m1 ≤ b)) (fun a _ => a) (fun _ b => b) x y = (decide (x < m1) && decide (m1 ≤ y)) := by
    unfold dbX
    rw [Bool.eq_iff_iff, exB_iff, Bool.and_eq_true, decide_eq_true_eq, decide_eq_true_eq]
    constructor
    · rintro ⟨a, a0, a1, h⟩
      obtain ⟨b, b0, b1, h3⟩ := exB_iff.mp h
      dsimp only at h3
      rw [Bool.and_eq_true, Bool.and_eq_true, decide_eq_true_eq, decide_eq_true_eq, decide_eq_true_eq] at h3
      obtain ⟨g1, g2, g3⟩ := h3
      omega
    · rintro ⟨g1, g2⟩
      exact ⟨x, x0, g1, exB_iff.mpr ⟨y, y0, y1, by dsimp only; rw [decide_eq_true g2, decide_eq_true rfl, decide_eq_true rfl]; rfl⟩⟩
  show ((cpX 0 m1 d1 x y || cpX m1 m2 d2 x y) || dbX m1 (m1 + m2) (fun _ b => decide (m1 ≤ b)) (fun a _ => a) (fun _ b => b) x y) = _
  rw [hd]
  unfold cpX sbR
  rw [Int.sub_zero, Int.sub_zero, Int.zero_add]
  by_cases hy : y < m1
  · rw [if_pos hy, decide_eq_true x0, decide_eq_true y0, decide_eq_true hy, decide_eq_false (show ¬ m1 ≤ y by omega)]
    simp
  · rw [if_neg hy, decide_eq_false hy, decide_eq_true (show m1 ≤ y by omega)]
    by_cases hx : x < m1
    · rw [if_pos hx, decide_eq_true hx]; simp
    · rw [if_neg hx, decide_eq_true (show m1 ≤ x by omega), decide_eq_true x1, decide_eq_true y1, decide_eq_false hx]; simp
theorem mks_times {m1 m2 : Int} {d1 d2 : Int → Int} (h1 : PO m1 d1) (h2 : PO m2 d2) (hq : m1 * m2 ≤ 10) : MKS (m1 * m2) (dblF (m1 * m2) (tmP m2 d1 d2)) (fun s t => exB m1 (fun a => exB m2 (fun b => dbX m1 m2 (fun v w => (decide (a = v) || rel d1 a v) && (decide (b = w) || rel d2 b w) && (decide (a ≠ v) || decide (b ≠ w))) (fun _ _ => a * m2 + b) (fun v w => v * m2 + w) s t))) := by
  have hm1 := h1.1.1
  have hm2 := h2.1.1
  have h0 : 0 ≤ m1 * m2 := Int.mul_nonneg hm1.1 hm2.1
  -- a number of the product and its two things
  have hdm : ∀ x, 0 ≤ x → x < m1 * m2 → (0 ≤ x / m2 ∧ x / m2 < m1) ∧ (0 ≤ x % m2 ∧ x % m2 < m2) ∧ x = x / m2 * m2 + x % m2 := by
    intro x x0 x1
    have hp : 0 < m2 := by
      rcases Int.lt_or_le 0 m2 with q | q
      · exact q
      · have : m2 = 0 := by omega
        rw [this, Int.mul_zero] at x1; omega
    refine ⟨⟨Int.ediv_nonneg x0 (by omega), Int.ediv_lt_of_lt_mul hp x1⟩, ⟨Int.emod_nonneg _ (by omega), Int.emod_lt_of_pos _ hp⟩, ?_⟩
    have := Int.mul_ediv_add_emod x m2
    rw [Int.mul_comm] at this
    omega
  have hR : ∀ x y, 0 ≤ x → x < m1 * m2 → 0 ≤ y → y < m1 * m2 → exB m1 (fun a => exB m2 (fun b => dbX m1 m2 (fun v w => (decide (a = v) || rel d1 a v) && (decide (b = w) || rel d2 b w) && (decide (a ≠ v) || decide (b ≠ w))) (fun _ _ => a * m2 + b) (fun v w => v * m2 + w) x y)) = tmP m2 d1 d2 x y := by
    intro x y x0 x1 y0 y1
    obtain ⟨xa, xb, xe⟩ := hdm x x0 x1
    obtain ⟨ya, yb, ye⟩ := hdm y y0 y1
    have hne : x ≠ y ↔ (x / m2 ≠ y / m2 ∨ x % m2 ≠ y % m2) := by
      constructor
      · intro q
        rcases Classical.em (x / m2 = y / m2) with w | w
        · right; intro z; apply q; rw [xe, ye, w, z]
        · exact Or.inl w
      · intro q z
        rw [z] at q
        rcases q with q | q <;> exact q rfl
    unfold tmP dbX
    rw [Bool.eq_iff_iff, exB_iff]
    simp only [Bool.and_eq_true, Bool.or_eq_true, decide_eq_true_eq]
    constructor
    · rintro ⟨a, a0, a1, h⟩
      obtain ⟨b, b0, b1, h⟩ := exB_iff.mp h
      obtain ⟨v, v0, v1, h⟩ := exB_iff.mp h
      obtain ⟨w, w0, w1, h⟩ := exB_iff.mp h
      simp only [Bool.and_eq_true, Bool.or_eq_true, decide_eq_true_eq] at h
      obtain ⟨⟨⟨g1, g2⟩, g3⟩, g4, g5⟩ := h
      have e1 : x / m2 = a := by rw [g4]; exact dm_d ⟨b0, b1⟩
      have e2 : x % m2 = b := by rw [g4]; exact dm_m ⟨b0, b1⟩
      have e3 : y / m2 = v := by rw [g5]; exact dm_d ⟨w0, w1⟩
      have e4 : y % m2 = w := by rw [g5]; exact dm_m ⟨w0, w1⟩
      rw [e1, e2, e3, e4] at hne ⊢
      exact ⟨⟨hne.mpr g3, g1⟩, g2⟩
    · rintro ⟨⟨g1, g2⟩, g3⟩
      refine ⟨x / m2, xa.1, xa.2, exB_iff.mpr ⟨x % m2, xb.1, xb.2, exB_iff.mpr ⟨y / m2, ya.1, ya.2, exB_iff.mpr ⟨y % m2, yb.1, yb.2, ?_⟩⟩⟩⟩
      simp only [Bool.and_eq_true, Bool.or_eq_true, decide_eq_true_eq]
      exact ⟨⟨⟨g2, g3⟩, hne.mp g1⟩, xe, ye⟩
  refine mks_of (ok_dbl ⟨h0, hq⟩) (fun x y x0 x1 y0 y1 => ?_) (fun y y0 _ => dbl_hi y0) (fun x x0 x1 => ?_) (fun x y z x0 x1 y0 y1 z0 z1 g1 g2 => ?_)
  · rw [rel_dbl ⟨h0, hq⟩ ⟨x0, x1⟩ y1]; exact (hR x y x0 x1 y0 y1).symm
  · rw [hR x x x0 x1 x0 x1]; unfold tmP; simp
  · rw [hR x y x0 x1 y0 y1] at g1
    rw [hR y z y0 y1 z0 z1] at g2
    rw [hR x z x0 x1 z0 z1]
    obtain ⟨xa, xb, xe⟩ := hdm x x0 x1
    obtain ⟨ya, yb, ye⟩ := hdm y y0 y1
    obtain ⟨za, zb, ze⟩ := hdm z z0 z1
    unfold tmP at g1 g2 ⊢
    simp only [Bool.and_eq_true, Bool.or_eq_true, decide_eq_true_eq] at g1 g2 ⊢
    obtain ⟨⟨n1, p1⟩, r1⟩ := g1
    obtain ⟨⟨n2, p2⟩, r2⟩ := g2
    have pa : x / m2 = z / m2 ∨ rel d1 (x / m2) (z / m2) = true := by
      rcases p1 with q | q
      · rw [q]; exact p2
      · rcases p2 with w | w
        · rw [← w]; exact Or.inr q
        · exact Or.inr (h1.2.2 _ _ _ xa.1 xa.2 ya.1 ya.2 za.1 za.2 q w)
    have pb : x % m2 = z % m2 ∨ rel d2 (x % m2) (z % m2) = true := by
      rcases r1 with q | q
      · rw [q]; exact r2
      · rcases r2 with w | w
        · rw [← w]; exact Or.inr q
        · exact Or.inr (h2.2.2 _ _ _ xb.1 xb.2 yb.1 yb.2 zb.1 zb.2 q w)
    refine ⟨⟨fun q => ?_, pa⟩, pb⟩
    -- x = z: then x is y
    subst q
    apply n1
    have e1 : x / m2 = y / m2 := by
      rcases p1 with q | q
      · exact q
      · rcases p2 with w | w
        · exact w.symm
        · have := h1.asym xa ya q; rw [w] at this; cases this
    have e2 : x % m2 = y % m2 := by
      rcases r1 with q | q
      · exact q
      · rcases r2 with w | w
        · exact w.symm
        · have := h2.asym xb yb q; rw [w] at this; cases this
    rw [xe, ye, e1, e2]
/-- telling keeps an order -/
theorem po_tl {m : Int} {d : Int → Int} (hP : PO m d) {a b : Int} (ha : 0 ≤ a ∧ a < m) (hb : 0 ≤ b ∧ b < m) (hne : a ≠ b) (hn : rel d b a = false) : PO m (tlD m d a b) := by
  have hr : ∀ x y, 0 ≤ x → x < m → 0 ≤ y → y < m → (rel (tlD m d a b) x y = true ↔ rel d x y = true ∨ ((rel d x a = true ∨ x = a) ∧ (y = b ∨ rel d b y = true))) := fun x y x0 _ y0 y1 => by
    rw [rel_tlD hP.1 ha x0 ⟨y0, y1⟩]; simp only [Bool.or_eq_true, Bool.and_eq_true, decide_eq_true_eq]
  have tr : ∀ {x y z : Int}, (0 ≤ x ∧ x < m) → (0 ≤ y ∧ y < m) → (0 ≤ z ∧ z < m) → rel d x y = true → rel d y z = true → rel d x z = true := fun hx hy hz => hP.2.2 _ _ _ hx.1 hx.2 hy.1 hy.2 hz.1 hz.2
  have hno : ∀ y, 0 ≤ y → y < m → (y = b ∨ rel d b y = true) → (rel d y a = true ∨ y = a) → False := by
    intro y y0 y1 h1 h2
    rcases h1 with q | q <;> rcases h2 with w | w
    · rw [q, hn] at w; cases w
    · exact hne (by rw [← w, q])
    · have := tr hb ⟨y0, y1⟩ ha q w; rw [hn] at this; cases this
    · rw [w, hn] at q; cases q
  refine ⟨tlD_ok hP.1 ha, fun x x0 x1 => ?_, fun x y z x0 x1 y0 y1 z0 z1 h1 h2 => ?_⟩
  · cases h : rel (tlD m d a b) x x with
    | false => rfl
    | true =>
      exfalso
      rcases (hr x x x0 x1 x0 x1).mp h with q | q
      · rw [hP.2.1 x x0 x1] at q; cases q
      · exact hno x x0 x1 q.2 q.1
  · rw [hr x y x0 x1 y0 y1] at h1
    rw [hr y z y0 y1 z0 z1] at h2
    rw [hr x z x0 x1 z0 z1]
    rcases h1 with h1 | h1 <;> rcases h2 with h2 | h2
    · exact Or.inl (tr ⟨x0, x1⟩ ⟨y0, y1⟩ ⟨z0, z1⟩ h1 h2)
    · right
      refine ⟨Or.inl ?_, h2.2⟩
      rcases h2.1 with q | q
      · exact tr ⟨x0, x1⟩ ⟨y0, y1⟩ ha h1 q
      · rw [← q]; exact h1
    · right
      refine ⟨h1.1, Or.inr ?_⟩
      rcases h1.2 with q | q
      · rw [← q]; exact h2
      · exact tr hb ⟨y0, y1⟩ ⟨z0, z1⟩ q h2
    · exact (hno y y0 y1 h1.2 h2.1).elim
/-- told already: nothing new -/
theorem tl_old {m : Int} {d : Int → Int} (hP : PO m d) {a b : Int} (ha : 0 ≤ a ∧ a < m) (hb : 0 ≤ b ∧ b < m) (h : rel d a b = true) : ∀ y, 0 ≤ y → y < 10 → tlD m d a b y = d y := by
  intro y y0 y1
  rcases Int.lt_or_le y m with w | w
  · refine d_ext (tlD_ok hP.1 ha) hP.1 (fun x y x0 x1 y0 y1 => ?_) ⟨y0, w⟩
    rw [rel_tlD hP.1 ha x0 ⟨y0, y1⟩]
    cases hxy : rel d x y with
    | true => rfl
    | false =>
      rw [Bool.false_or, Bool.eq_false_iff, ne_eq]
      simp only [Bool.or_eq_true, Bool.and_eq_true, decide_eq_true_eq]
      rintro ⟨h1, h2⟩
      have h3 : rel d x b = true := by
        rcases h1 with q | q
        · exact hP.2.2 x a b x0 x1 ha.1 ha.2 hb.1 hb.2 q h
        · rw [q]; exact h
      have : rel d x y = true := by
        rcases h2 with q | q
        · rw [q]; exact h3
        · exact hP.2.2 x b y x0 x1 hb.1 hb.2 y0 y1 h3 q
      rw [hxy] at this; cases this
  · unfold tlD
    rw [if_neg (by omega)]
theorem tl1_eq {m : Int} {d : Int → Int} (hP : PO m d) {a b : Int} (ha : 0 ≤ a ∧ a < m) (hb : 0 ≤ b ∧ b < m) : ∀ y, 0 ≤ y → y < 10 → tl1 m d a b y = tlD m d a b y := by
  intro y y0 y1
  unfold tl1
  split
  · rename_i h; exact (tl_old hP ha hb h y y0 y1).symm
  · rfl
theorem dM_tl {M : MM} {o a b : Int} : ∀ y, 0 ≤ y → y < 10 → dM (tlM M o a b) o y = tlD (M 38 o) (dM M o) a b y := by
  intro y y0 y1
  have e : tlM M o a b 39 = tlF M o a b (M 38 o) := by unfold tlM; rw [st2_ne _ (by decide), setA_at]
  show tlM M o a b 39 (10 * o + y) = _
  rw [e]
  unfold tlF tlD
  rw [show 10 * o + y - 10 * o = y by omega]
  by_cases h : y < M 38 o ∧ (y = b ∨ rel (dM M o) b y = true)
  · rw [if_pos ⟨by omega, by omega, by rcases h.2 with q | q; exact Or.inl (by omega); exact Or.inr q⟩, if_pos h]
    rfl
  · rw [if_neg (fun q => h ⟨by omega, by rcases q.2.2 with z | z; exact Or.inl (by omega); exact Or.inr z⟩), if_neg h]
    rfl
theorem dM_tlo {M : MM} {o a b o' : Int} (h : o' ≠ o) (hs : M 38 o ≤ 10) : ∀ y, 0 ≤ y → y < 10 → dM (tlM M o a b) o' y = dM M o' y := by
  intro y y0 y1
  have e : tlM M o a b 39 = tlF M o a b (M 38 o) := by unfold tlM; rw [st2_ne _ (by decide), setA_at]
  unfold dM
  rw [e]
  unfold tlF
  rw [if_neg (by omega)]
