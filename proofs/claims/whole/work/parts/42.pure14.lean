/-! ===== orders; the second row of two ===== -/
/-- an ORDER: nothing below itself, what is below what is below is below -/
def PO (m : Int) (d : Int → Int) : Prop := OK m d ∧ (∀ a, 0 ≤ a → a < m → rel d a a = false) ∧ ∀ a b c, 0 ≤ a → a < m → 0 ≤ b → b < m → 0 ≤ c → c < m → rel d a b = true → rel d b c = true → rel d a c = true
theorem rel_lt {m : Int} {d : Int → Int} (h : OK m d) {a b : Int} (hb : 0 ≤ b ∧ b < 10) (hr : rel d a b = true) : a < m := by
  rcases Int.lt_or_le a m with q | q
  · exact q
  · have h1 := h.2.1 b hb.1 hb.2
    have h2 := h.2.2 b hb.1 hb.2
    have := bt_hi h.1 ⟨h1.1, h2⟩ q
    unfold rel at hr
    rw [this] at hr
    cases hr
theorem PO.asym {m : Int} {d : Int → Int} (h : PO m d) {a b : Int} (ha : 0 ≤ a ∧ a < m) (hb : 0 ≤ b ∧ b < m) (h1 : rel d a b = true) : rel d b a = false := by
  cases h2 : rel d b a with
  | false => rfl
  | true =>
    have := h.2.2 a b a ha.1 ha.2 hb.1 hb.2 ha.1 ha.2 h1 h2
    rw [h.2.1 a ha.1 ha.2] at this
    cases this
theorem apr_iff {d : Int → Int} {a b : Int} : apr d a b = true ↔ a ≠ b ∧ rel d a b = false ∧ rel d b a = false := by
  unfold apr
  simp [and_assoc]
theorem apr_comm (d : Int → Int) (a b : Int) : apr d a b = apr d b a := by
  rw [Bool.eq_iff_iff, apr_iff, apr_iff]
  constructor
  · exact fun h => ⟨h.1.symm, h.2.2, h.2.1⟩
  · exact fun h => ⟨h.1.symm, h.2.2, h.2.1⟩
theorem sub_iff {x y : Int} (hx : nn x) (hy : nn y) : sub x y = true ↔ ∀ a : Int, 0 ≤ a → a < 31 → bt x a = true → bt y a = true := by
  unfold sub
  rw [decide_eq_true_eq]
  exact zdif_0 hx hy
theorem dis_iff {x y : Int} (hx : nn x) (hy : nn y) : dis x y = true ↔ ∀ a : Int, 0 ≤ a → a < 31 → bt x a = true → bt y a = false := by
  unfold dis
  rw [decide_eq_true_eq]
  exact zand_0 hx hy
/-- the set of the first k things of a row -/
theorem hadS_s {x : XX} {k : Int} (h : 0 ≤ k) : hadS x (k + 1) = plus (hadS x k) (x k) := foldZ_s h _ _
theorem hadS_b {x : XX} : ∀ k : Nat, (∀ i : Int, 0 ≤ i → i < k → 0 ≤ x i ∧ x i < 10) → 0 ≤ hadS x k ∧ hadS x k < 1024 := by
  intro k
  induction k with
  | zero => intro _; show (0 : Int) ≤ 0 ∧ (0 : Int) < 1024; decide
  | succ k ih =>
    intro h
    rw [show ((k + 1 : Nat) : Int) = (k : Int) + 1 by omega, hadS_s (by omega)]
    exact zor10 (ih (fun i h0 h1 => h i h0 (by omega))) (shl10 (h k (by omega) (by omega)))
theorem hadS_bt {x : XX} : ∀ k : Nat, (∀ i : Int, 0 ≤ i → i < k → 0 ≤ x i ∧ x i < 10) → ∀ a : Int, 0 ≤ a → (bt (hadS x k) a = true ↔ ∃ i : Int, 0 ≤ i ∧ i < k ∧ x i = a) := by
  intro k
  induction k with
  | zero =>
    intro _ a ha
    rw [show hadS x ((0 : Nat) : Int) = 0 from rfl, bt_0]
    exact ⟨fun h => (by cases h), fun ⟨i, h0, h1, _⟩ => by omega⟩
  | succ k ih =>
    intro h a ha
    have hk := h k (by omega) (by omega)
    have hb := hadS_b (x := x) k (fun i h0 h1 => h i h0 (by omega))
    rw [show ((k + 1 : Nat) : Int) = (k : Int) + 1 by omega, hadS_s (by omega), bt_plus (nn10 hb) ⟨hk.1, by omega⟩ ha, Bool.or_eq_true, ih (fun i h0 h1 => h i h0 (by omega)) a ha, decide_eq_true_eq]
    constructor
    · rintro (⟨i, h0, h1, h2⟩ | h2)
      · exact ⟨i, h0, by omega, h2⟩
      · exact ⟨k, by omega, by omega, h2⟩
    · rintro ⟨i, h0, h1, h2⟩
      by_cases hi : i = k
      · right; rw [← hi]; exact h2
      · left; exact ⟨i, h0, by omega, h2⟩
/-- rows that the search for TWO takes -/
def TwoOK (m : Int) (d : Int → Int) (x : XX) : Prop := ∀ i, 0 ≤ i → i < m → twP d x i (x i) = true ∧ 0 ≤ x i ∧ x i < m
theorem TwoOK.congr {m : Int} {d : Int → Int} {x y : XX} (h : TwoOK m d x) (he : ∀ i, 0 ≤ i → i < m → y i = x i) : TwoOK m d y := by
  intro i h0 h1
  rw [he i h0 h1, twP_loc d y x i (x i) (fun j h2 h3 => he j h2 (by omega))]
  exact h i h0 h1
theorem two_ok {m : Int} {d : Int → Int} (hm : 0 ≤ m) {z : XX} (h : twR m d = some z) : TwoOK m d z := fun i h0 h1 => (dfs_sound hm (twP_loc d) h).1 i h0 h1
theorem can_iff {d : Int → Int} {s c : Int} : can d s c = true ↔ bt s c = false ∧ sub (d c) s = true := by
  unfold can may
  simp
theorem TwoOK.can {m : Int} {d : Int → Int} {x : XX} (h : TwoOK m d x) {i : Int} (hi : 0 ≤ i ∧ i < m) : can d (hadS x i) (x i) = true := by
  have := (h i hi.1 hi.2).1
  unfold twP at this
  rw [Bool.and_eq_true] at this
  exact this.1
section TWO
variable {m : Int} {d : Int → Int} {x : XX}
theorem TwoOK.inj (hP : PO m d) (h : TwoOK m d x) {i j : Int} (hi : 0 ≤ i ∧ i < m) (hj : 0 ≤ j ∧ j < m) (he : x i = x j) : i = j := by
  have hm := hP.1.1
  have key : ∀ i j : Int, 0 ≤ i → i < j → j < m → x i ≠ x j := by
    intro i j h0 h1 h2 he
    have h3 := (can_iff.mp (h.can (i := j) ⟨by omega, h2⟩)).1
    have h4 := (hadS_bt (x := x) j.toNat (fun k h5 h6 => by have := h k h5 (by omega); omega) (x j) (h j (by omega) h2).2.1).mpr ⟨i, h0, by omega, he⟩
    rw [show ((j.toNat : Nat) : Int) = j by omega, h3] at h4
    cases h4
  rcases Int.lt_trichotomy i j with q | q | q
  · exact absurd he (key i j hi.1 q hj.2)
  · exact q
  · exact absurd he.symm (key j i hj.1 q hi.2)
/-- what is below comes ahead -/
theorem TwoOK.mono (hP : PO m d) (h : TwoOK m d x) {i j : Int} (hi : 0 ≤ i ∧ i < m) (hj : 0 ≤ j ∧ j < m) (hr : rel d (x i) (x j) = true) : i < j := by
  have hm := hP.1.1
  have hx : ∀ k : Int, 0 ≤ k → k < (j.toNat : Nat) → 0 ≤ x k ∧ x k < 10 := fun k h5 h6 => by have := h k h5 (by omega); omega
  have h3 := (can_iff.mp (h.can (i := j) hj)).2
  have hxj := (h j hj.1 hj.2).2
  have hxi := (h i hi.1 hi.2).2
  have hb := hadS_b (x := x) j.toNat hx
  rw [show ((j.toNat : Nat) : Int) = j by omega] at hb
  have h4 := (sub_iff (hP.1.nn ⟨hxj.1, by omega⟩) (nn10 hb)).mp h3 (x i) hxi.1 (by omega) hr
  rw [show j = ((j.toNat : Nat) : Int) by omega] at h4
  obtain ⟨k, h5, h6, h7⟩ := (hadS_bt j.toNat hx (x i) hxi.1).mp h4
  have := h.inj hP ⟨h5, by omega⟩ hi h7
  omega
theorem TwoOK.no (h : TwoOK m d x) {i j k : Int} (h0 : 0 ≤ i) (h1 : i < j) (h2 : j < k) (h3 : k < m) (hr : rel d (x i) (x k) = true) (ha : apr d (x i) (x j) = true) (hb : apr d (x j) (x k) = true) : False := by
  have := (h k (by omega) h3).1
  unfold twP at this
  rw [Bool.and_eq_true, allB_iff] at this
  have h4 := allB_iff.mp (this.2 i h0 (by omega)) j (by omega) h2
  rw [hr, ha, hb] at h4
  simp at h4
  omega
end TWO
/-- a map of m things into m, one to one, takes each -/
theorem surj_of_inj {m : Int} {f : XX} (hf : ∀ i, 0 ≤ i → i < m → 0 ≤ f i ∧ f i < m) (hi : ∀ i j, 0 ≤ i → i < j → j < m → f i ≠ f j) {p : Int} (hp : 0 ≤ p ∧ p < m) : ∃ i, 0 ≤ i ∧ i < m ∧ f i = p := by
  rcases Classical.em (∃ i, 0 ≤ i ∧ i < m ∧ f i = p) with q | q
  · exact q
  · exfalso
    have hne : ∀ i, 0 ≤ i → i < m → f i ≠ p := fun i h0 h1 he => q ⟨i, h0, h1, he⟩
    have := pigeon (m.toNat - 1) m.toNat (fun k => (if f k < p then f k else f k - 1).toNat) (fun k hk => by
      have h1 := hf k (by omega) (by omega)
      have h2 := hne k (by omega) (by omega)
      show (if f k < p then f k else f k - 1).toNat < _
      split <;> omega) (fun j k h1 h2 => by
      have a1 := hf j (by omega) (by omega)
      have a2 := hne j (by omega) (by omega)
      have b1 := hf k (by omega) (by omega)
      have b2 := hne k (by omega) (by omega)
      have c := hi j k (by omega) (by omega) (by omega)
      show (if f j < p then f j else f j - 1).toNat ≠ (if f k < p then f k else f k - 1).toNat
      split <;> split <;> omega)
    omega
/-- sums over a row are sums over its things -/
theorem sumN_swap (F : Int → Int → Int) : ∀ a b : Nat, sumN (fun i => sumN (fun j => F i j) b) a = sumN (fun j => sumN (fun i => F i j) a) b := by
  intro a b
  induction a with
  | zero =>
    show (0 : Int) = sumN (fun j => 0) b
    rw [sumN_const, Int.mul_zero]
  | succ a ih =>
    show sumN (fun i => sumN (fun j => F i j) b) a + sumN (fun j => F a j) b = sumN (fun j => sumN (fun i => F i j) a + F a j) b
    rw [ih, sumN_add]
theorem sumZ_swap (a b : Int) (F : Int → Int → Int) : sumZ a (fun i => sumZ b (fun j => F i j)) = sumZ b (fun j => sumZ a (fun i => F i j)) := sumN_swap F _ _
/-- a sum with one term alone -/
theorem sumZ_at {n j x : Int} (hj : 0 ≤ j ∧ j < n) : sumZ n (fun i => if i = j then x else 0) = x := by
  have h := sumZ_one (n := n) (f := fun _ => 0) (g := fun i => if i = j then x else 0) (c := j) (x := x) hj (by simp) (fun e _ he => if_neg he)
  rw [h, sumZ_const (by omega), Int.mul_zero, Int.zero_add]
theorem sumZ_0f {n : Int} {f : Int → Int} (h : ∀ i, 0 ≤ i → i < n → f i = 0) : sumZ n f = 0 := by
  rw [sumZ_congr (g := fun _ => 0) h]
  unfold sumZ
  rw [sumN_const, Int.mul_zero]
theorem sumZ_perm {m : Int} {f : XX} (hm : 0 ≤ m) (hf : ∀ i, 0 ≤ i → i < m → 0 ≤ f i ∧ f i < m) (hi : ∀ i j, 0 ≤ i → i < j → j < m → f i ≠ f j) (F : Int → Int) : sumZ m (fun i => F (f i)) = sumZ m F := by
  have e1 : sumZ m (fun i => F (f i)) = sumZ m (fun i => sumZ m (fun a => if a = f i then F a else 0)) := by
    refine sumZ_congr (fun i h0 h1 => ?_)
    have := sumZ_at (n := m) (j := f i) (x := F (f i)) (hf i h0 h1)
    rw [← this]
    refine sumZ_congr (fun a _ _ => ?_)
    by_cases h : a = f i
    · rw [if_pos h, if_pos h, h]
    · rw [if_neg h, if_neg h]
  rw [e1, sumZ_swap]
  refine sumZ_congr (fun a h0 h1 => ?_)
  obtain ⟨i, g0, g1, g2⟩ := surj_of_inj hf hi ⟨h0, h1⟩
  rw [sumZ_congr (g := fun k => if k = i then F a else 0) (fun k k0 k1 => ?_)]
  · exact sumZ_at ⟨g0, g1⟩
  · by_cases hk : k = i
    · rw [if_pos hk, if_pos (by rw [hk, g2])]
    · rw [if_neg hk, if_neg]
      intro he
      rcases Int.lt_or_gt_of_ne hk with q | q
      · exact hi k i k0 q g1 (by omega)
      · exact hi i k g0 q k1 (by omega)
/-- how many come ahead of the i-th thing in the second row -/
def ahN (m : Int) (d : Int → Int) (x : XX) (i : Int) : Int := cnt (d (x i)) + sumZ m (fun j => B (decide (i < j) && apr d (x i) (x j)))
def ah2 (d : Int → Int) (x : XX) (i j : Int) : Bool := rel d (x i) (x j) || (decide (j < i) && apr d (x i) (x j))
section TWO2
variable {m : Int} {d : Int → Int} {x : XX}
theorem ahN_eq (hP : PO m d) (h : TwoOK m d x) {j : Int} (hj : 0 ≤ j ∧ j < m) : ahN m d x j = sumZ m (fun i => B (ah2 d x i j)) := by
  have hm := hP.1.1
  have hxj := (h j hj.1 hj.2).2
  have h1 := hP.1.2.1 (x j) hxj.1 (by omega)
  have h2 := hP.1.2.2 (x j) hxj.1 (by omega)
  unfold ahN
  rw [cnt_m hm ⟨h1.1, h2⟩, ← sumZ_perm (f := x) hm.1 (fun i h0 h1 => (h i h0 h1).2) (fun i k h0 h1 h2 he => by have := h.inj hP ⟨h0, by omega⟩ ⟨by omega, h2⟩ he; omega) (fun a => B (bt (d (x j)) a)), ← sumZ_add]
  refine sumZ_congr (fun i h0 h1 => ?_)
  show B (rel d (x i) (x j)) + B (decide (j < i) && apr d (x j) (x i)) = B (ah2 d x i j)
  unfold ah2
  rw [apr_comm d (x j) (x i)]
  cases hr : rel d (x i) (x j) with
  | false => cases hq : (decide (j < i) && apr d (x i) (x j)) <;> rfl
  | true =>
    have : apr d (x i) (x j) = false := by unfold apr; rw [hr]; simp
    rw [this]; simp [B]
theorem ah2_irr (hP : PO m d) (h : TwoOK m d x) {i : Int} (hi : 0 ≤ i ∧ i < m) : ah2 d x i i = false := by
  unfold ah2
  rw [hP.2.1 (x i) (h i hi.1 hi.2).2.1 (h i hi.1 hi.2).2.2]
  simp
theorem ah2_iff {i j : Int} : ah2 d x i j = true ↔ rel d (x i) (x j) = true ∨ (j < i ∧ apr d (x i) (x j) = true) := by
  unfold ah2
  simp
theorem ah2_tot (hP : PO m d) (h : TwoOK m d x) {i j : Int} (hi : 0 ≤ i ∧ i < m) (hj : 0 ≤ j ∧ j < m) (hne : i ≠ j) : ah2 d x i j = true ∨ ah2 d x j i = true := by
  rw [ah2_iff, ah2_iff, apr_comm d (x j) (x i)]
  have hxe : x i ≠ x j := fun he => hne (h.inj hP hi hj he)
  cases h1 : rel d (x i) (x j) with
  | true => exact Or.inl (Or.inl rfl)
  | false =>
    cases h2 : rel d (x j) (x i) with
    | true => exact Or.inr (Or.inl rfl)
    | false =>
      have h3 : apr d (x i) (x j) = true := apr_iff.mpr ⟨hxe, h1, h2⟩
      rcases Int.lt_or_gt_of_ne hne with q | q
      · exact Or.inr (Or.inr ⟨q, h3⟩)
      · exact Or.inl (Or.inr ⟨q, h3⟩)
theorem ah2_tr (hP : PO m d) (h : TwoOK m d x) {i j k : Int} (hi : 0 ≤ i ∧ i < m) (hj : 0 ≤ j ∧ j < m) (hk : 0 ≤ k ∧ k < m) (h1 : ah2 d x i j = true) (h2 : ah2 d x j k = true) : ah2 d x i k = true := by
  have xi := (h i hi.1 hi.2).2
  have xj := (h j hj.1 hj.2).2
  have xk := (h k hk.1 hk.2).2
  have tr : ∀ {a b c : Int}, (0 ≤ a ∧ a < m) → (0 ≤ b ∧ b < m) → (0 ≤ c ∧ c < m) → rel d a b = true → rel d b c = true → rel d a c = true := fun ha hb hc => hP.2.2 _ _ _ ha.1 ha.2 hb.1 hb.2 hc.1 hc.2
  rw [ah2_iff] at h1 h2 ⊢
  cases hik : rel d (x i) (x k) with
  | true => exact Or.inl rfl
  | false =>
    right
    rcases h1 with h1 | ⟨p1, h1⟩ <;> rcases h2 with h2 | ⟨p2, h2⟩
    · rw [tr xi xj xk h1 h2] at hik; cases hik
    · have q := apr_iff.mp h2
      have hki : rel d (x k) (x i) = false := by
        cases hq : rel d (x k) (x i) with
        | false => rfl
        | true => have := tr xk xi xj hq h1; rw [q.2.2] at this; cases this
      have hne : x i ≠ x k := fun he => by rw [he, q.2.2] at h1; cases h1
      have ha : apr d (x i) (x k) = true := apr_iff.mpr ⟨hne, hik, hki⟩
      refine ⟨?_, ha⟩
      have hlt := h.mono hP hi hj h1
      rcases Int.lt_trichotomy i k with z | z | z
      · exact (h.no hi.1 z p2 hj.2 h1 ha (by rw [apr_comm]; exact h2)).elim
      · exact absurd (congrArg x z) hne
      · exact z
    · have q := apr_iff.mp h1
      have hki : rel d (x k) (x i) = false := by
        cases hq : rel d (x k) (x i) with
        | false => rfl
        | true => have := tr xj xk xi h2 hq; rw [q.2.2] at this; cases this
      have hne : x i ≠ x k := fun he => by rw [he] at q; rw [q.2.2] at h2; cases h2
      have ha : apr d (x i) (x k) = true := apr_iff.mpr ⟨hne, hik, hki⟩
      refine ⟨?_, ha⟩
      have hlt := h.mono hP hj hk h2
      rcases Int.lt_trichotomy i k with z | z | z
      · exact (h.no hj.1 p1 z hk.2 h2 (by rw [apr_comm]; exact h1) ha).elim
      · exact absurd (congrArg x z) hne
      · exact z
    · have hki : rel d (x k) (x i) = false := by
        cases hq : rel d (x k) (x i) with
        | false => rfl
        | true => exact (h.no hk.1 p2 p1 hi.2 hq (by rw [apr_comm]; exact h2) (by rw [apr_comm]; exact h1)).elim
      have hne : x i ≠ x k := fun he => by have := h.inj hP hi hk he; omega
      exact ⟨by omega, apr_iff.mpr ⟨hne, hik, hki⟩⟩
theorem ahN_lt2 (hP : PO m d) (h : TwoOK m d x) {j k : Int} (hj : 0 ≤ j ∧ j < m) (hk : 0 ≤ k ∧ k < m) (h1 : ah2 d x j k = true) : ahN m d x j + 1 ≤ ahN m d x k := by
  rw [ahN_eq hP h hj, ahN_eq hP h hk]
  refine sumZ_le1 (j := j) hj ?_ (fun c h0 h2 => B_mono (fun hq => ah2_tr hP h ⟨h0, h2⟩ hj hk hq h1))
  show B (ah2 d x j k) ≥ B (ah2 d x j j) + 1
  rw [h1, ah2_irr hP h hj]
  decide
theorem ahN_b (hP : PO m d) (h : TwoOK m d x) {j : Int} (hj : 0 ≤ j ∧ j < m) : 0 ≤ ahN m d x j ∧ ahN m d x j < m := by
  rw [ahN_eq hP h hj]
  refine ⟨(sumZ_b01 hP.1.1.1 _).1, ?_⟩
  have := sumZ_le1 (n := m) (f := fun i => B (ah2 d x i j)) (g := fun _ => 1) (j := j) (x := 1) hj (by show (1 : Int) ≥ B (ah2 d x j j) + 1; rw [ah2_irr hP h hj]; decide) (fun c _ _ => by have := B_01 (ah2 d x c j); show B (ah2 d x c j) ≤ 1; omega)
  rw [sumZ_const hP.1.1.1] at this
  omega
theorem ahN_inj (hP : PO m d) (h : TwoOK m d x) {j k : Int} (hj : 0 ≤ j ∧ j < m) (hk : 0 ≤ k ∧ k < m) (hne : j ≠ k) : ahN m d x j ≠ ahN m d x k := by
  rcases ah2_tot hP h hj hk hne with q | q
  · have := ahN_lt2 hP h hj hk q; omega
  · have := ahN_lt2 hP h hk hj q; omega
/-- the second row -/
def secV (m : Int) (d : Int → Int) (x : XX) (p : Int) : Int := rs m (fun i => if ahN m d x i = p then x i else -1) 0
theorem rs_first {n : Int} {f : Int → Int} {i v : Int} (h1 : f i ≠ -1) (h2 : ∀ j, v ≤ j → j < n → j ≠ i → f j = -1) (hi : v ≤ i ∧ i < n) : rs n f v = f i := by
  have key : ∀ (k : Nat) (v : Int), (i - v).toNat = k → v ≤ i → (∀ j, v ≤ j → j < n → j ≠ i → f j = -1) → rs n f v = f i := by
    intro k
    induction k with
    | zero => intro v hk hv _; rw [show v = i by omega, rs_s (by omega), oe_n h1]
    | succ k ih =>
      intro v hk hv h
      rw [rs_s (by omega), h v (by omega) (by omega) (by omega), oe_m]
      exact ih (v + 1) (by omega) (by omega) (fun j h0 h3 h4 => h j (by omega) h3 h4)
  exact key _ v rfl hi.1 h2
theorem secV_at (hP : PO m d) (h : TwoOK m d x) {i : Int} (hi : 0 ≤ i ∧ i < m) : secV m d x (ahN m d x i) = x i := by
  unfold secV
  rw [rs_first (i := i) (by rw [if_pos rfl]; have := (h i hi.1 hi.2).2; omega) (fun j h0 h1 h2 => by rw [if_neg (ahN_inj hP h ⟨h0, h1⟩ hi h2)]) hi, if_pos rfl]
theorem ahN_surj (hP : PO m d) (h : TwoOK m d x) {p : Int} (hp : 0 ≤ p ∧ p < m) : ∃ i, 0 ≤ i ∧ i < m ∧ ahN m d x i = p :=
  surj_of_inj (f := ahN m d x) (fun i h0 h1 => ahN_b hP h ⟨h0, h1⟩) (fun i j h0 h1 h2 => ahN_inj hP h ⟨h0, by omega⟩ ⟨by omega, h2⟩ (by omega)) hp
theorem sec_fold (hP : PO m d) (h : TwoOK m d x) (S : XX) {p : Int} (hp : 0 ≤ p ∧ p < m) : foldG m (fun T i => up T (ahN m d x i) (x i)) S p = secV m d x p := by
  have key : ∀ k : Nat, (k : Int) ≤ m → ∀ i, 0 ≤ i → i < (k : Int) → foldG (k : Int) (fun T i => up T (ahN m d x i) (x i)) S (ahN m d x i) = x i := by
    intro k
    induction k with
    | zero => intro _ i h0 h1; omega
    | succ k ih =>
      intro hk i h0 h1
      rw [show ((k + 1 : Nat) : Int) = (k : Int) + 1 by omega, foldG_s (by omega)]
      show (if ahN m d x i = ahN m d x k then x k else _) = x i
      by_cases hi : i = k
      · rw [if_pos (by rw [hi]), hi]
      · rw [if_neg (ahN_inj hP h ⟨h0, by omega⟩ ⟨by omega, by omega⟩ hi)]
        exact ih (by omega) i h0 (by omega)
  obtain ⟨i, g0, g1, g2⟩ := ahN_surj hP h hp
  have hm := hP.1.1
  have := key m.toNat (by omega) i g0 (by omega)
  rw [show ((m.toNat : Nat) : Int) = m by omega, g2] at this
  rw [this, ← g2, secV_at hP h ⟨g0, g1⟩]
end TWO2
theorem ahN_congr {m : Int} {d : Int → Int} {x y : XX} (he : ∀ i, 0 ≤ i → i < m → y i = x i) {i : Int} (hi : 0 ≤ i ∧ i < m) : ahN m d y i = ahN m d x i := by
  unfold ahN
  rw [he i hi.1 hi.2, sumZ_congr (fun j h0 h1 => by rw [he j h0 h1])]
theorem secV_congr {m : Int} {d : Int → Int} {x y : XX} (he : ∀ i, 0 ≤ i → i < m → y i = x i) (p : Int) : secV m d y p = secV m d x p := by
  unfold secV
  exact rs_congr _ 0 rfl (by omega) (fun c h0 h1 => by rw [ahN_congr he ⟨h0, h1⟩, he c h0 h1])
/-- what the model keeps of TWO -/
def TWk (M : MM) (o : Int) : Prop := M 36 23 = B (twR (M 38 o) (dM M o)).isSome ∧ ∀ z, twR (M 38 o) (dM M o) = some z → ∀ i, 0 ≤ i → i < M 38 o → M 52 i = z i ∧ M 53 i = secV (M 38 o) (dM M o) z i
def TW (M : MM) : Prop := M 36 21 = 0 ∨ (M 36 21 = 1 ∧ (0 ≤ M 36 22 ∧ M 36 22 < M 36 0) ∧ TWk M (M 36 22))
