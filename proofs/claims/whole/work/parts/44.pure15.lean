/-! ===== walks of nexts ===== -/
def exB (n : Int) (P : Int → Bool) : Bool := !allB n (fun c => !P c)
theorem exB_iff {n : Int} {P : Int → Bool} : exB n P = true ↔ ∃ c : Int, 0 ≤ c ∧ c < n ∧ P c = true := by
  unfold exB
  constructor
  · intro h
    rcases Classical.em (∃ c : Int, 0 ≤ c ∧ c < n ∧ P c = true) with q | q
    · exact q
    · exfalso
      have : allB n (fun c => !P c) = true := allB_iff.mpr (fun c h0 h1 => by
        cases hp : P c with
        | false => rfl
        | true => exact absurd ⟨c, h0, h1, hp⟩ q)
      rw [this] at h
      cases h
  · rintro ⟨c, h0, h1, h2⟩
    cases hq : allB n (fun c => !P c) with
    | false => rfl
    | true => have := allB_iff.mp hq c h0 h1; rw [h2] at this; cases this
def wkN (m : Int) (d : Int → Int) : Nat → Int → Int → Bool
  | 0, x, y => decide (x = y)
  | k + 1, x, y => exB m (fun c => nxt m d x c && wkN m d k c y)
theorem wkz {m : Int} {d : Int → Int} {x y : Int} : wkN m d 0 x y = true ↔ x = y := by
  show decide (x = y) = true ↔ _
  simp
theorem wk_s {m : Int} {d : Int → Int} {k : Nat} {x y : Int} : wkN m d (k + 1) x y = true ↔ ∃ c : Int, 0 ≤ c ∧ c < m ∧ nxt m d x c = true ∧ wkN m d k c y = true := by
  show exB m (fun c => nxt m d x c && wkN m d k c y) = true ↔ _
  rw [exB_iff]
  simp only [Bool.and_eq_true]
theorem wk_r {m : Int} {d : Int → Int} : ∀ {k : Nat} {x y : Int}, 0 ≤ x ∧ x < m → (wkN m d (k + 1) x y = true ↔ (∃ c : Int, 0 ≤ c ∧ c < m ∧ wkN m d k x c = true ∧ nxt m d c y = true ∧ (0 ≤ y ∧ y < m))) := by
  intro k
  induction k with
  | zero =>
    intro x y hx
    rw [wk_s]
    constructor
    · rintro ⟨c, h0, h1, h2, h3⟩
      rw [wkz] at h3
      rw [h3] at h2 h0 h1
      exact ⟨x, hx.1, hx.2, wkz.mpr rfl, h2, h0, h1⟩
    · rintro ⟨c, h0, h1, h2, h3, h4⟩
      rw [wkz] at h2
      rw [← h2] at h3
      exact ⟨y, h4.1, h4.2, h3, wkz.mpr rfl⟩
  | succ k ih =>
    intro x y hx
    rw [wk_s]
    constructor
    · rintro ⟨c, h0, h1, h2, h3⟩
      obtain ⟨e, g0, g1, g2, g3, g4⟩ := (ih (x := c) ⟨h0, h1⟩).mp h3
      exact ⟨e, g0, g1, wk_s.mpr ⟨c, h0, h1, h2, g2⟩, g3, g4⟩
    · rintro ⟨e, g0, g1, g2, g3, g4⟩
      obtain ⟨c, h0, h1, h2, h3⟩ := wk_s.mp g2
      exact ⟨c, h0, h1, h2, (ih (x := c) ⟨h0, h1⟩).mpr ⟨e, g0, g1, h3, g3, g4⟩⟩
theorem nxt_iff {m : Int} {d : Int → Int} {a b : Int} : nxt m d a b = true ↔ rel d a b = true ∧ ∀ c, 0 ≤ c → c < m → ¬ (rel d a c = true ∧ rel d c b = true) := by
  unfold nxt
  rw [Bool.and_eq_true, allB_iff]
  simp only [Bool.not_eq_true', Bool.and_eq_false_iff]
  constructor
  · rintro ⟨h1, h2⟩
    refine ⟨h1, fun c h0 h3 h4 => ?_⟩
    rcases h2 c h0 h3 with q | q
    · rw [h4.1] at q; cases q
    · rw [h4.2] at q; cases q
  · rintro ⟨h1, h2⟩
    refine ⟨h1, fun c h0 h3 => ?_⟩
    cases hq : rel d a c with
    | false => exact Or.inl rfl
    | true =>
      cases hr : rel d c b with
      | false => exact Or.inr rfl
      | true => exact absurd ⟨hq, hr⟩ (h2 c h0 h3)
section PO1
variable {m : Int} {d : Int → Int}
/-- what is below has fewer below it -/
theorem PO.cnt_lt (hP : PO m d) {a b : Int} (ha : 0 ≤ a ∧ a < m) (hb : 0 ≤ b ∧ b < m) (hr : rel d a b = true) : cnt (d a) + 1 ≤ cnt (d b) := by
  have hm := hP.1.1
  have a1 := hP.1.2.1 a ha.1 (by omega)
  have a2 := hP.1.2.2 a ha.1 (by omega)
  have b1 := hP.1.2.1 b hb.1 (by omega)
  have b2 := hP.1.2.2 b hb.1 (by omega)
  rw [cnt_m hm ⟨a1.1, a2⟩, cnt_m hm ⟨b1.1, b2⟩]
  refine sumZ_le1 (j := a) ha ?_ (fun c h0 h1 => B_mono (fun hq => hP.2.2 c a b h0 h1 ha.1 ha.2 hb.1 hb.2 hq hr))
  show B (rel d a b) ≥ B (rel d a a) + 1
  rw [hr, hP.2.1 a ha.1 ha.2]
  decide
theorem PO.cntm (hP : PO m d) {b : Int} (hb : 0 ≤ b ∧ b < m) : cnt (d b) + 1 ≤ m := by
  have hm := hP.1.1
  have b1 := hP.1.2.1 b hb.1 (by omega)
  have b2 := hP.1.2.2 b hb.1 (by omega)
  rw [cnt_m hm ⟨b1.1, b2⟩]
  have := sumZ_le1 (n := m) (f := fun a => B (bt (d b) a)) (g := fun _ => 1) (j := b) (x := 1) hb (by show (1 : Int) ≥ B (rel d b b) + 1; rw [hP.2.1 b hb.1 hb.2]; decide) (fun c _ _ => by have := B_01 (bt (d b) c); show B (bt (d b) c) ≤ 1; omega)
  rw [sumZ_const hm.1] at this
  omega
theorem wk_cnt (hP : PO m d) : ∀ (k : Nat) {x y : Int}, 0 ≤ x ∧ x < m → 0 ≤ y ∧ y < m → wkN m d k x y = true → cnt (d x) + k ≤ cnt (d y) := by
  intro k
  induction k with
  | zero => intro x y hx hy h; rw [wkz.mp h]; omega
  | succ k ih =>
    intro x y hx hy h
    obtain ⟨c, h0, h1, h2, h3⟩ := wk_s.mp h
    have := hP.cnt_lt hx ⟨h0, h1⟩ (nxt_iff.mp h2).1
    have := ih ⟨h0, h1⟩ hy h3
    omega
theorem wk_le (hP : PO m d) {k : Nat} {x y : Int} (hx : 0 ≤ x ∧ x < m) (hy : 0 ≤ y ∧ y < m) (h : wkN m d k x y = true) : (k : Int) < m := by
  have h1 := wk_cnt hP k hx hy h
  have h2 := hP.cntm hy
  have h3 := cnt_b (d x)
  omega
theorem wk_add : ∀ (j k : Nat) {x y z : Int}, wkN m d j x y = true → wkN m d k y z = true → wkN m d (j + k) x z = true := by
  intro j
  induction j with
  | zero => intro k x y z h1 h2; rw [wkz.mp h1, Nat.zero_add]; exact h2
  | succ j ih =>
    intro k x y z h1 h2
    obtain ⟨c, h0, h3, h4, h5⟩ := wk_s.mp h1
    rw [show j + 1 + k = (j + k) + 1 by omega]
    exact wk_s.mpr ⟨c, h0, h3, h4, ih k h5 h2⟩
/-- from what is below there is a walk -/
theorem wk_ex (hP : PO m d) : ∀ (f : Nat) {x y : Int}, 0 ≤ x ∧ x < m → 0 ≤ y ∧ y < m → (cnt (d y) - cnt (d x)).toNat ≤ f → rel d x y = true → ∃ k : Nat, wkN m d (k + 1) x y = true := by
  intro f
  induction f with
  | zero => intro x y hx hy hf h; have := hP.cnt_lt hx hy h; omega
  | succ f ih =>
    intro x y hx hy hf h
    by_cases hn : nxt m d x y = true
    · exact ⟨0, wk_s.mpr ⟨y, hy.1, hy.2, hn, wkz.mpr rfl⟩⟩
    · rcases Classical.em (∃ c, 0 ≤ c ∧ c < m ∧ rel d x c = true ∧ rel d c y = true) with ⟨c, h0, h1, h2, h3⟩ | q
      · have c1 := hP.cnt_lt hx ⟨h0, h1⟩ h2
        have c2 := hP.cnt_lt ⟨h0, h1⟩ hy h3
        obtain ⟨j, hj⟩ := ih hx ⟨h0, h1⟩ (by omega) h2
        obtain ⟨k, hk⟩ := ih ⟨h0, h1⟩ hy (by omega) h3
        exact ⟨j + 1 + k, wk_add (j + 1) (k + 1) hj hk⟩
      · exact absurd (nxt_iff.mpr ⟨h, fun c h0 h1 h2 => q ⟨c, h0, h1, h2.1, h2.2⟩⟩) hn
end PO1
/-- the fewest steps from x to y; -1: no walk -/
def dst (m : Int) (d : Int → Int) (x y : Int) : Int := rs m (fun k => if wkN m d k.toNat x y then k else -1) 0
theorem rs_P {n : Int} {P : Int → Bool} (hn : 0 ≤ n) : (rs n (fun c => if P c then c else -1) 0 = -1 ∧ ∀ c, 0 ≤ c → c < n → P c = false) ∨ (P (rs n (fun c => if P c then c else -1) 0) = true ∧ 0 ≤ rs n (fun c => if P c then c else -1) 0 ∧ rs n (fun c => if P c then c else -1) 0 < n ∧ ∀ c, 0 ≤ c → c < rs n (fun c => if P c then c else -1) 0 → P c = false) := by
  have key : ∀ (k : Nat) (v : Int), (n - v).toNat = k → 0 ≤ v → v ≤ n → (∀ c, 0 ≤ c → c < v → P c = false) → (rs n (fun c => if P c then c else -1) v = -1 ∧ ∀ c, 0 ≤ c → c < n → P c = false) ∨ (P (rs n (fun c => if P c then c else -1) v) = true ∧ 0 ≤ rs n (fun c => if P c then c else -1) v ∧ rs n (fun c => if P c then c else -1) v < n ∧ ∀ c, 0 ≤ c → c < rs n (fun c => if P c then c else -1) v → P c = false) := by
    intro k
    induction k with
    | zero =>
      intro v hk h0 h1 h
      left
      rw [rs_e (by omega)]
      exact ⟨rfl, fun c g0 g1 => h c g0 (by omega)⟩
    | succ k ih =>
      intro v hk h0 h1 h
      rw [rs_s (by omega)]
      by_cases hp : P v = true
      · right
        rw [if_pos hp, oe_n (by omega)]
        exact ⟨hp, h0, by omega, h⟩
      · rw [if_neg hp, oe_m]
        exact ih (v + 1) (by omega) (by omega) (by omega) (fun c g0 g1 => by
          by_cases hc : c = v
          · rw [hc]; simpa using hp
          · exact h c g0 (by omega))
  exact key _ 0 rfl (by omega) hn (fun c h0 h1 => by omega)
section DST
variable {m : Int} {d : Int → Int}
theorem dst_spec (hm : 0 ≤ m) (x y : Int) : (dst m d x y = -1 ∧ ∀ k : Nat, (k : Int) < m → wkN m d k x y = false) ∨ (0 ≤ dst m d x y ∧ dst m d x y < m ∧ wkN m d (dst m d x y).toNat x y = true ∧ ∀ k : Nat, (k : Int) < dst m d x y → wkN m d k x y = false) := by
  unfold dst
  rcases rs_P (n := m) (P := fun k => wkN m d k.toNat x y) hm with ⟨h1, h2⟩ | ⟨h1, h2, h3, h4⟩
  · exact Or.inl ⟨h1, fun k hk => by have := h2 k (by omega) hk; simpa using this⟩
  · exact Or.inr ⟨h2, h3, h1, fun k hk => by have := h4 k (by omega) hk; simpa using this⟩
theorem dst_eq (hm : 0 ≤ m) {x y : Int} {k : Nat} (hk : (k : Int) < m) (h : wkN m d k x y = true) (hmin : ∀ j : Nat, j < k → wkN m d j x y = false) : dst m d x y = k := by
  rcases dst_spec (d := d) hm x y with ⟨h1, h2⟩ | ⟨h1, h2, h3, h4⟩
  · rw [h2 k hk] at h; cases h
  · rcases Int.lt_trichotomy (dst m d x y) k with q | q | q
    · have := hmin (dst m d x y).toNat (by omega); rw [h3] at this; cases this
    · exact q
    · have := h4 k q; rw [h] at this; cases this
/-- shortest walks -/
def farF (m : Int) (d : Int → Int) (a c : Int) : Int := if dst m d c a = -1 then 100 else dst m d c a
def isFar (m : Int) (d : Int → Int) (a : Int) (F : XX) : Prop := ∀ c, 0 ≤ c → c < m → F c = 100 ∨ (0 ≤ F c ∧ F c < m ∧ wkN m d (F c).toNat c a = true)
def hasFar (m : Int) (d : Int → Int) (a : Int) (F : XX) (c : Int) (N : Int) : Prop := ∀ k : Nat, (k : Int) ≤ N → wkN m d k c a = true → F c ≤ k
theorem far_end (hP : PO m d) {a : Int} {F : XX} (ha : 0 ≤ a ∧ a < m) (h1 : isFar m d a F) (h2 : ∀ c, 0 ≤ c → c < m → hasFar m d a F c m) {c : Int} (hc : 0 ≤ c ∧ c < m) : F c = farF m d a c := by
  have hm := hP.1.1
  unfold farF
  rcases dst_spec (d := d) hm.1 c a with ⟨g1, g2⟩ | ⟨g1, g2, g3, g4⟩
  · rw [if_pos g1]
    rcases h1 c hc.1 hc.2 with q | ⟨q0, q1, q2⟩
    · exact q
    · rw [g2 (F c).toNat (by omega)] at q2; cases q2
  · rw [if_neg (by omega)]
    have := h2 c hc.1 hc.2 (dst m d c a).toNat (by omega) g3
    rcases h1 c hc.1 hc.2 with q | ⟨q0, q1, q2⟩
    · omega
    · rcases Int.lt_or_le (F c) (dst m d c a) with z | z
      · rw [g4 (F c).toNat (by omega)] at q2; cases q2
      · omega
/-- the walk's next thing -/
def stpF (m : Int) (d : Int → Int) (a x : Int) : Int := rs m (fun c => if nxt m d x c && decide (dst m d c a = dst m d x a - 1) then c else -1) 0
def pth (m : Int) (d : Int → Int) (a b i : Int) : Int := foldZ i (fun x _ => stpF m d a x) b
theorem pth_s {a b i : Int} (hi : 0 ≤ i) : pth m d a b (i + 1) = stpF m d a (pth m d a b i) := foldZ_s hi _ _
theorem dst_0 (hm : 0 < m) {x : Int} : dst m d x x = 0 := dst_eq (k := 0) (by omega) (by omega) (wkz.mpr rfl) (fun j h => by omega)
theorem stp_ok (hP : PO m d) {a x : Int} (ha : 0 ≤ a ∧ a < m) (hx : 0 ≤ x ∧ x < m) (h : 1 ≤ dst m d x a) : (0 ≤ stpF m d a x ∧ stpF m d a x < m) ∧ nxt m d x (stpF m d a x) = true ∧ dst m d (stpF m d a x) a = dst m d x a - 1 := by
  have hm := hP.1.1
  rcases dst_spec (d := d) hm.1 x a with ⟨g1, g2⟩ | ⟨g1, g2, g3, g4⟩
  · omega
  · rw [show (dst m d x a).toNat = (dst m d x a - 1).toNat + 1 by omega] at g3
    obtain ⟨c, h0, h1, h2, h3⟩ := wk_s.mp g3
    have hd : dst m d c a = ((dst m d x a - 1).toNat : Nat) := dst_eq hm.1 (by omega) h3 (fun j hj => by
      cases hq : wkN m d j c a with
      | false => rfl
      | true => have := g4 (j + 1) (by omega); rw [wk_s.mpr ⟨c, h0, h1, h2, hq⟩] at this; cases this)
    have hp := rs_P (n := m) (P := fun c => nxt m d x c && decide (dst m d c a = dst m d x a - 1)) hm.1
    unfold stpF
    rcases hp with ⟨q1, q2⟩ | ⟨q1, q2, q3, q4⟩
    · have := q2 c h0 h1
      rw [h2, show decide (dst m d c a = dst m d x a - 1) = true from by simp; omega] at this
      cases this
    · rw [Bool.and_eq_true, decide_eq_true_eq] at q1
      exact ⟨⟨q2, q3⟩, q1.1, q1.2⟩
theorem pth_ok (hP : PO m d) {a b : Int} (ha : 0 ≤ a ∧ a < m) (hb : 0 ≤ b ∧ b < m) : ∀ k : Nat, (k : Int) ≤ dst m d b a → (0 ≤ pth m d a b k ∧ pth m d a b k < m) ∧ dst m d (pth m d a b k) a = dst m d b a - k := by
  intro k
  induction k with
  | zero => intro _; exact ⟨hb, by show dst m d b a = dst m d b a - 0; omega⟩
  | succ k ih =>
    intro hk
    obtain ⟨h1, h2⟩ := ih (by omega)
    rw [show ((k + 1 : Nat) : Int) = (k : Int) + 1 by omega, pth_s (by omega)]
    have := stp_ok hP ha h1 (by omega)
    exact ⟨this.1, by omega⟩
theorem dst_below (hP : PO m d) {a b : Int} (ha : 0 ≤ a ∧ a < m) (hb : 0 ≤ b ∧ b < m) (hr : rel d b a = true) : 1 ≤ dst m d b a ∧ dst m d b a < m := by
  obtain ⟨k, hk⟩ := wk_ex hP _ hb ha (Nat.le_refl _) hr
  have h1 := wk_le hP hb ha hk
  rcases dst_spec (d := d) hP.1.1.1 b a with ⟨g1, g2⟩ | ⟨g1, g2, g3, g4⟩
  · rw [g2 (k + 1) h1] at hk; cases hk
  · refine ⟨?_, g2⟩
    rcases Int.lt_or_le (dst m d b a) 1 with q | q
    · rw [show (dst m d b a).toNat = 0 by omega] at g3
      have := wkz.mp g3
      rw [this, hP.2.1 a ha.1 ha.2] at hr
      cases hr
    · exact q
theorem dst_z (hm : 0 < m) {x a : Int} (h : dst m d x a = 0) : x = a := by
  rcases dst_spec (d := d) (by omega : 0 ≤ m) x a with ⟨g1, g2⟩ | ⟨g1, g2, g3, g4⟩
  · omega
  · rw [h] at g3
    exact wkz.mp g3
end DST
/-- what finding a round changes -/
def sr (M M1 : MM) : Prop := (∀ x : Int, x ≠ 46 → x ≠ 41 → x ≠ 36 → M1 x = M x) ∧ ∀ k : Int, k ≠ 7 → M1 36 k = M 36 k
theorem sr.rf {M : MM} : sr M M := ⟨fun _ _ _ _ => rfl, fun _ _ => rfl⟩
theorem sr.tr {M M1 M2 : MM} (h1 : sr M M1) (h2 : sr M1 M2) : sr M M2 := ⟨fun x hx hy hz => (h2.1 x hx hy hz).trans (h1.1 x hx hy hz), fun k hk => (h2.2 k hk).trans (h1.2 k hk)⟩
theorem sr.st {M M1 : MM} (a : Int) (ha : (decide (a = 46) || decide (a = 41)) = true) (h : sr M M1) {k v : Int} : sr M (st2 M1 a k v) := by
  simp at ha
  exact ⟨fun x hx hy hz => by rw [st2_ne M1 (by omega)]; exact h.1 x hx hy hz, fun j hj => by rw [st2_ne M1 (by omega)]; exact h.2 j hj⟩
theorem sr.fd {M M1 : MM} (a k : Int) (ha : (decide (a = 36) && decide (k = 7)) = true) (h : sr M M1) {v : Int} : sr M (st2 M1 a k v) := by
  simp at ha
  obtain ⟨rfl, rfl⟩ := ha
  refine ⟨fun x hx hy hz => by rw [st2_ne M1 hz]; exact h.1 x hx hy hz, fun j hj => ?_⟩
  rw [← h.2 j hj]
  simp [st2, hj]
theorem MO.off_sr {K : KK} {M M1 : MM} (h : MO K M) (hs : sr M M1) : MO K M1 := by
  have e36 : M1 36 0 = M 36 0 := hs.2 0 (by omega)
  have e38 : M1 38 = M 38 := hs.1 38 (by omega) (by omega) (by omega)
  have e39 : M1 39 = M 39 := hs.1 39 (by omega) (by omega) (by omega)
  refine ⟨h.1.of (fun q hq => ?_), by rw [e36]; exact h.2.1, by rw [e38]; exact h.2.2.1, by rw [e39]; exact h.2.2.2.1, by rw [e38, e39]; exact h.2.2.2.2⟩
  have h1 : ∀ q ∈ mfL, q.1 ≠ 46 ∧ q.1 ≠ 41 := by decide
  have h2 : ∀ q ∈ mfL, q.2.1 ≠ 7 ∨ q.1 ≠ 36 := by decide
  by_cases h3 : q.1 = 36
  · rw [h3, hs.2 q.2.1 (by rcases h2 q hq with z | z; exact z; exact absurd h3 z)]
  · rw [hs.1 q.1 (h1 q hq).1 (h1 q hq).2 h3]
theorem AT.off_sr {K : KK} {M M1 : MM} {o m : Int} {d : Int → Int} (h : AT K M o m d) (hs : sr M M1) : AT K M1 o m d := by
  have e38 : M1 38 = M 38 := hs.1 38 (by omega) (by omega) (by omega)
  have e39 : M1 39 = M 39 := hs.1 39 (by omega) (by omega) (by omega)
  exact ⟨h.1.off_sr hs, h.2.1, by rw [e38]; exact h.2.2.1, by unfold dM; rw [e39]; exact h.2.2.2⟩
