/-! ===== as few chains as the widest set has things ===== -/
def sz (m : Int) (S : Int → Bool) : Int := sumZ m (fun a => B (S a))
def AC (m : Int) (d : Int → Int) (S T : Int → Bool) : Prop := (∀ a, 0 ≤ a → a < m → T a = true → S a = true) ∧ ∀ a b, 0 ≤ a → a < m → 0 ≤ b → b < m → T a = true → T b = true → a ≠ b → apr d a b = true
def CC (m : Int) (d : Int → Int) (S : Int → Bool) (f : Int → Int) (k : Int) : Prop := (∀ a, 0 ≤ a → a < m → S a = true → 0 ≤ f a ∧ f a < k) ∧ ∀ a b, 0 ≤ a → a < m → 0 ≤ b → b < m → S a = true → S b = true → f a = f b → a ≠ b → apr d a b = false
theorem sum_uniq {P : Int → Bool} {m : Int} (h : ∀ a b, 0 ≤ a → a < m → 0 ≤ b → b < m → P a = true → P b = true → a = b) : sumZ m (fun a => B (P a)) ≤ 1 := by
  rcases Int.lt_or_le m 0 with hm | hm
  · unfold sumZ; rw [show m.toNat = 0 by omega]; exact (show (0 : Int) ≤ 1 by omega)
  · rcases Classical.em (∃ a, 0 ≤ a ∧ a < m ∧ P a = true) with ⟨a, a0, a1, a2⟩ | q
    · have := sumZ_le (n := m) (f := fun c => B (P c)) (g := fun i => if i = a then 1 else 0) (fun c c0 c1 => by
        show B (P c) ≤ if c = a then 1 else 0
        by_cases hc : c = a
        · rw [if_pos hc]; have := B_01 (P c); omega
        · rw [if_neg hc]
          cases hp : P c with
          | false => exact Int.le_refl _
          | true => exact absurd (h c a c0 c1 a0 a1 hp a2) hc)
      rw [sumZ_at ⟨a0, a1⟩] at this
      exact this
    · rw [sumF_false (fun i i0 i1 => by
        cases hp : P i with
        | false => rfl
        | true => exact absurd ⟨i, i0, i1, hp⟩ q)]
      omega
theorem sum_pos {P : Int → Bool} {m a : Int} (ha : 0 ≤ a ∧ a < m) (hp : P a = true) : 1 ≤ sumZ m (fun a => B (P a)) := by
  have := sumZ_le1 (n := m) (f := fun _ => 0) (g := fun c => B (P c)) (j := a) (x := 1) ha (by show B (P a) ≥ 0 + 1; rw [hp]; decide) (fun c _ _ => by have := B_01 (P c); show 0 ≤ B (P c); omega)
  rw [sumZ_const (by omega)] at this
  omega
theorem sum_ex {P : Int → Bool} {m : Int} (h : sumZ m (fun a => B (P a)) ≠ 0) : ∃ a, 0 ≤ a ∧ a < m ∧ P a = true := by
  rcases Classical.em (∃ a, 0 ≤ a ∧ a < m ∧ P a = true) with q | q
  · exact q
  · exfalso
    apply h
    exact sumF_false (fun i i0 i1 => by
      cases hp : P i with
      | false => rfl
      | true => exact absurd ⟨i, i0, i1, hp⟩ q)
section DIL
variable {m : Int} {d : Int → Int}
theorem sz_fib {T : Int → Bool} {f : Int → Int} {k : Int} (hf : ∀ a, 0 ≤ a → a < m → T a = true → 0 ≤ f a ∧ f a < k) : sz m T = sumZ k (fun i => sumZ m (fun a => B (T a && decide (f a = i)))) := by
  unfold sz
  rw [sumZ_swap]
  refine sumZ_congr (fun a a0 a1 => ?_)
  cases ht : T a with
  | false => rw [sumZ_0f (fun i _ _ => by rw [Bool.false_and]; rfl)]; rfl
  | true =>
    have h := sumZ_at (n := k) (j := f a) (x := 1) (hf a a0 a1 ht)
    show (1 : Int) = _
    rw [← h]
    refine sumZ_congr (fun i _ _ => ?_)
    rw [Bool.true_and]
    by_cases hi : i = f a
    · rw [if_pos hi, decide_eq_true hi.symm]; rfl
    · rw [if_neg hi, decide_eq_false (fun q => hi q.symm)]; rfl
theorem ac_fib {S T : Int → Bool} {f : Int → Int} {k : Int} (hT : AC m d S T) (hC : CC m d S f k) (i : Int) : sumZ m (fun a => B (T a && decide (f a = i))) ≤ 1 := by
  refine sum_uniq (fun a b a0 a1 b0 b1 ha hb => ?_)
  rw [Bool.and_eq_true, decide_eq_true_eq] at ha hb
  rcases Classical.em (a = b) with q | q
  · exact q
  · have h1 := hT.2 a b a0 a1 b0 b1 ha.1 hb.1 q
    rw [hC.2 a b a0 a1 b0 b1 (hT.1 a a0 a1 ha.1) (hT.1 b b0 b1 hb.1) (by omega) q] at h1
    cases h1
theorem ac_le {S T : Int → Bool} {f : Int → Int} {k : Int} (hk : 0 ≤ k) (hT : AC m d S T) (hC : CC m d S f k) : sz m T ≤ k := by
  rw [sz_fib (fun a a0 a1 ha => hC.1 a a0 a1 (hT.1 a a0 a1 ha))]
  have := sumZ_le (n := k) (f := fun i => sumZ m (fun a => B (T a && decide (f a = i)))) (g := fun _ => 1) (fun i _ _ => ac_fib hT hC i)
  rw [sumZ_const hk] at this
  omega
theorem ac_hit {S T : Int → Bool} {f : Int → Int} {k : Int} (hk : 0 ≤ k) (hT : AC m d S T) (hC : CC m d S f k) (hs : sz m T = k) {i : Int} (hi : 0 ≤ i ∧ i < k) : ∃ a, 0 ≤ a ∧ a < m ∧ T a = true ∧ f a = i := by
  rcases Classical.em (sumZ m (fun a => B (T a && decide (f a = i))) = 0) with q | q
  · exfalso
    have h := sz_fib (T := T) (fun a a0 a1 ha => hC.1 a a0 a1 (hT.1 a a0 a1 ha))
    have := sumZ_le1 (n := k) (f := fun i => sumZ m (fun a => B (T a && decide (f a = i)))) (g := fun _ => 1) (j := i) (x := 1) hi (by show (1 : Int) ≥ sumZ m (fun a => B (T a && decide (f a = i))) + 1; omega) (fun i _ _ => ac_fib hT hC i)
    rw [sumZ_const hk] at this
    omega
  · obtain ⟨a, a0, a1, a2⟩ := sum_ex q
    rw [Bool.and_eq_true, decide_eq_true_eq] at a2
    exact ⟨a, a0, a1, a2.1, a2.2⟩
theorem ex_max {Q : Int → Prop} {g : Int → Int} (hg : ∀ a, 0 ≤ g a ∧ g a ≤ 10) (h : ∃ a, 0 ≤ a ∧ a < m ∧ Q a) : ∃ a, 0 ≤ a ∧ a < m ∧ Q a ∧ ∀ b, 0 ≤ b → b < m → Q b → g b ≤ g a := by
  rcases Classical.em (∃ a, 0 ≤ a ∧ a < m ∧ Q a ∧ ∀ b, 0 ≤ b → b < m → Q b → g b ≤ g a) with q | q
  · exact q
  · exfalso
    have st : ∀ a, 0 ≤ a → a < m → Q a → ∃ b, 0 ≤ b ∧ b < m ∧ Q b ∧ g a < g b := by
      intro a a0 a1 a2
      rcases Classical.em (∃ b, 0 ≤ b ∧ b < m ∧ Q b ∧ g a < g b) with r | r
      · exact r
      · exact absurd ⟨a, a0, a1, a2, fun b b0 b1 b2 => by
          rcases Int.lt_or_le (g a) (g b) with w | w
          · exact absurd ⟨b, b0, b1, b2, w⟩ r
          · exact w⟩ q
    have up : ∀ k : Nat, ∃ e, 0 ≤ e ∧ e < m ∧ Q e ∧ (k : Int) ≤ g e := by
      intro k
      induction k with
      | zero => obtain ⟨e, e0, e1, e2⟩ := h; exact ⟨e, e0, e1, e2, (hg e).1⟩
      | succ k ih =>
        obtain ⟨e, e0, e1, e2, e3⟩ := ih
        obtain ⟨x, x0, x1, x2, x3⟩ := st e e0 e1 e2
        exact ⟨x, x0, x1, x2, by omega⟩
    obtain ⟨e, _, _, _, h⟩ := up 11
    have := (hg e).2
    omega
theorem apr_cases {a b : Int} (h : apr d a b = false) (hne : a ≠ b) : rel d a b = true ∨ rel d b a = true := by
  cases h1 : rel d a b with
  | true => exact Or.inl rfl
  | false =>
    cases h2 : rel d b a with
    | true => exact Or.inr rfl
    | false => rw [apr_iff.mpr ⟨hne, h1, h2⟩] at h; cases h
theorem apr_of_rel {a b : Int} (h : rel d a b = true) : apr d a b = false := by unfold apr; rw [h]; simp
theorem dilworth (hP : PO m d) : ∀ (n : Nat) (S : Int → Bool), sz m S = n → ∃ (k : Int) (f : Int → Int) (T : Int → Bool), 0 ≤ k ∧ CC m d S f k ∧ AC m d S T ∧ sz m T = k := by
  have hm := hP.1.1
  intro n
  induction n using Nat.strongRecOn with
  | _ n ih =>
    intro S hS
    rcases Classical.em (∃ a, 0 ≤ a ∧ a < m ∧ S a = true) with hne | hno
    · obtain ⟨a, a0, a1, aS, amax⟩ := ex_max (Q := fun a => S a = true) (g := fun a => cnt (d a)) (fun a => cnt_b _) hne
      have hamax : ∀ b, 0 ≤ b → b < m → S b = true → rel d a b = false := by
        intro b b0 b1 hb
        cases hr : rel d a b with
        | false => rfl
        | true =>
          have h1 := hP.cnt_lt ⟨a0, a1⟩ ⟨b0, b1⟩ hr
          have h2 := amax b b0 b1 hb
          have h3 : cnt (d b) ≤ cnt (d a) := h2
          omega
      have hS' : ∀ z, (S z && decide (z ≠ a)) = true ↔ S z = true ∧ z ≠ a := fun z => by rw [Bool.and_eq_true, decide_eq_true_eq]
      have hlt : sz m (fun z => S z && decide (z ≠ a)) + 1 ≤ sz m S := by
        unfold sz
        refine sumZ_le1 (j := a) ⟨a0, a1⟩ ?_ (fun c _ _ => B_mono (fun h => ((hS' c).mp h).1))
        show B (S a) ≥ B (S a && decide (a ≠ a)) + 1
        rw [aS, show decide (a ≠ a) = false by simp]; decide
      have hnn : 0 ≤ sz m (fun z => S z && decide (z ≠ a)) := (sumZ_b01 hm.1 _).1
      obtain ⟨k, f, T0, hk, hC, hT0, hT0k⟩ := ih (sz m (fun z => S z && decide (z ≠ a))).toNat (by omega) (fun z => S z && decide (z ≠ a)) (by omega)
      -- the highest of each chain that lies in a greatest antichain
      have hX : ∀ i, 0 ≤ i → i < k → ∃ x, 0 ≤ x ∧ x < m ∧ ((S x = true ∧ x ≠ a) ∧ f x = i ∧ ∃ T, AC m d (fun z => S z && decide (z ≠ a)) T ∧ sz m T = k ∧ T x = true) ∧ ∀ z, 0 ≤ z → z < m → ((S z = true ∧ z ≠ a) ∧ f z = i ∧ ∃ T, AC m d (fun z => S z && decide (z ≠ a)) T ∧ sz m T = k ∧ T z = true) → cnt (d z) ≤ cnt (d x) := by
        intro i i0 i1
        refine ex_max (Q := fun x => (S x = true ∧ x ≠ a) ∧ f x = i ∧ ∃ T, AC m d (fun z => S z && decide (z ≠ a)) T ∧ sz m T = k ∧ T x = true) (g := fun a => cnt (d a)) (fun a => cnt_b _) ?_
        obtain ⟨y, y0, y1, y2, y3⟩ := ac_hit hk hT0 hC hT0k ⟨i0, i1⟩
        exact ⟨y, y0, y1, (hS' y).mp (hT0.1 y y0 y1 y2), y3, T0, hT0, hT0k, y2⟩
      obtain ⟨x, hx⟩ := Classical.axiomOfChoice (r := fun (i : Int) (x : Int) => 0 ≤ i → i < k → 0 ≤ x ∧ x < m ∧ ((S x = true ∧ x ≠ a) ∧ f x = i ∧ ∃ T, AC m d (fun z => S z && decide (z ≠ a)) T ∧ sz m T = k ∧ T x = true) ∧ ∀ z, 0 ≤ z → z < m → ((S z = true ∧ z ≠ a) ∧ f z = i ∧ ∃ T, AC m d (fun z => S z && decide (z ≠ a)) T ∧ sz m T = k ∧ T z = true) → cnt (d z) ≤ cnt (d x)) (fun i => by
        by_cases hi : 0 ≤ i ∧ i < k
        · obtain ⟨x, hx⟩ := hX i hi.1 hi.2
          exact ⟨x, fun _ _ => hx⟩
        · exact ⟨0, fun h0 h1 => absurd ⟨h0, h1⟩ hi⟩)
      have htop : ∀ i, 0 ≤ i → i < k → ∀ z, 0 ≤ z → z < m → (S z = true ∧ z ≠ a) → f z = i → (∃ T, AC m d (fun z => S z && decide (z ≠ a)) T ∧ sz m T = k ∧ T z = true) → z = x i ∨ rel d z (x i) = true := by
        intro i i0 i1 z z0 z1 zS zf zT
        obtain ⟨x0, x1, ⟨xS, xf, xT⟩, xm⟩ := hx i i0 i1
        rcases Classical.em (z = x i) with q | q
        · exact Or.inl q
        · right
          have h1 := hC.2 z (x i) z0 z1 x0 x1 ((hS' z).mpr zS) ((hS' (x i)).mpr xS) (by omega) q
          rcases apr_cases h1 q with w | w
          · exact w
          · have h2 := hP.cnt_lt ⟨x0, x1⟩ ⟨z0, z1⟩ w
            have h3 := xm z z0 z1 ⟨zS, zf, zT⟩
            omega
      have hnr : ∀ i j, 0 ≤ i → i < k → 0 ≤ j → j < k → i ≠ j → rel d (x j) (x i) = false := by
        intro i j i0 i1 j0 j1 hij
        obtain ⟨x0, x1, ⟨xS, xf, T, hT, hTk, hTx⟩, xm⟩ := hx i i0 i1
        obtain ⟨w0, w1, ⟨wS, wf, _⟩, wm⟩ := hx j j0 j1
        cases hr : rel d (x j) (x i) with
        | false => rfl
        | true =>
          exfalso
          obtain ⟨y, y0, y1, y2, y3⟩ := ac_hit hk hT hC hTk ⟨j0, j1⟩
          have hyi : y ≠ x i := fun q => by rw [q, xf] at y3; exact hij y3
          have hap := apr_iff.mp (hT.2 y (x i) y0 y1 x0 x1 y2 hTx hyi)
          rcases htop j j0 j1 y y0 y1 ((hS' y).mp (hT.1 y y0 y1 y2)) y3 ⟨T, hT, hTk, y2⟩ with q | q
          · rw [q, hr] at hap; exact absurd hap.2.1 (by decide)
          · have := hP.2.2 y (x j) (x i) y0 y1 w0 w1 x0 x1 q hr
            rw [hap.2.1] at this; cases this
      rcases Classical.em (∀ i, 0 ≤ i → i < k → apr d a (x i) = true) with hall | hex
      · -- a goes into a chain of its own
        refine ⟨k + 1, fun z => if z = a then k else f z, fun z => decide (z = a) || ((S z && decide (z ≠ a)) && decide (x (f z) = z)), by omega, ⟨fun z z0 z1 hz => ?_, fun z w z0 z1 w0 w1 hz hw he hne => ?_⟩, ⟨fun z z0 z1 hz => ?_, fun z w z0 z1 w0 w1 hz hw hne => ?_⟩, ?_⟩
        · show 0 ≤ (if z = a then k else f z) ∧ (if z = a then k else f z) < k + 1
          by_cases hza : z = a
          · rw [if_pos hza]; omega
          · rw [if_neg hza]; have := hC.1 z z0 z1 ((hS' z).mpr ⟨hz, hza⟩); omega
        · have he' : (if z = a then k else f z) = (if w = a then k else f w) := he
          by_cases hza : z = a
          · rw [if_pos hza, if_neg (fun q => hne (by rw [hza, q]))] at he'
            have := hC.1 w w0 w1 ((hS' w).mpr ⟨hw, fun q => hne (by rw [hza, q])⟩)
            omega
          · rw [if_neg hza] at he'
            by_cases hwa : w = a
            · rw [if_pos hwa] at he'
              have := hC.1 z z0 z1 ((hS' z).mpr ⟨hz, hza⟩)
              omega
            · rw [if_neg hwa] at he'
              exact hC.2 z w z0 z1 w0 w1 ((hS' z).mpr ⟨hz, hza⟩) ((hS' w).mpr ⟨hw, hwa⟩) he' hne
        · rw [Bool.or_eq_true, decide_eq_true_eq, Bool.and_eq_true] at hz
          rcases hz with q | q
          · rw [q]; exact aS
          · exact ((hS' z).mp q.1).1
        · rw [Bool.or_eq_true, decide_eq_true_eq, Bool.and_eq_true, decide_eq_true_eq] at hz hw
          have hin : ∀ u, 0 ≤ u → u < m → ((S u && decide (u ≠ a)) = true ∧ x (f u) = u) → (0 ≤ f u ∧ f u < k) := fun u u0 u1 hu => hC.1 u u0 u1 hu.1
          rcases hz with qz | qz <;> rcases hw with qw | qw
          · exact absurd (by rw [qz, qw]) hne
          · have hf := hin w w0 w1 qw
            have := hall (f w) hf.1 hf.2
            rw [qw.2] at this
            rw [qz]; exact this
          · have hf := hin z z0 z1 qz
            have := hall (f z) hf.1 hf.2
            rw [qz.2] at this
            rw [qw, apr_comm]; exact this
          · have hfz := hin z z0 z1 qz
            have hfw := hin w w0 w1 qw
            have hff : f z ≠ f w := fun q => hne (by rw [← qz.2, ← qw.2, q])
            have h1 := hnr (f w) (f z) hfw.1 hfw.2 hfz.1 hfz.2 (fun q => hff q.symm)
            have h2 := hnr (f z) (f w) hfz.1 hfz.2 hfw.1 hfw.2 hff
            rw [qz.2, qw.2] at h1 h2
            exact apr_iff.mpr ⟨hne, h1, h2⟩
        · -- its size
          have e1 : sz m (fun z => decide (z = a) || ((S z && decide (z ≠ a)) && decide (x (f z) = z))) = sz m (fun z => (S z && decide (z ≠ a)) && decide (x (f z) = z)) + 1 := by
            unfold sz
            refine sumZ_one ⟨a0, a1⟩ ?_ (fun e e0 he => ?_)
            · show B (decide (a = a) || _) = B ((S a && decide (a ≠ a)) && decide (x (f a) = a)) + 1
              rw [decide_eq_true rfl, show decide (a ≠ a) = false by simp, Bool.and_false, Bool.false_and, Bool.true_or]; rfl
            · show B (decide (e = a) || _) = _
              rw [decide_eq_false he, Bool.false_or]
          rw [e1]
          congr 1
          have e2 := sz_fib (m := m) (T := fun z => (S z && decide (z ≠ a)) && decide (x (f z) = z)) (f := f) (k := k) (fun z z0 z1 hz => by
            rw [Bool.and_eq_true] at hz
            exact hC.1 z z0 z1 hz.1)
          rw [e2, sumZ_congr (g := fun _ => 1) (fun i i0 i1 => ?_), sumZ_const hk, Int.mul_one]
          obtain ⟨x0, x1, ⟨xS, xf, _⟩, _⟩ := hx i i0 i1
          have h1 := sum_pos (m := m) (P := fun z => ((S z && decide (z ≠ a)) && decide (x (f z) = z)) && decide (f z = i)) ⟨x0, x1⟩ (by
            show (((S (x i) && decide (x i ≠ a)) && decide (x (f (x i)) = x i)) && decide (f (x i) = i)) = true
            rw [(hS' (x i)).mpr xS, xf, decide_eq_true rfl, decide_eq_true rfl]; rfl)
          have h2 := sum_uniq (m := m) (P := fun z => ((S z && decide (z ≠ a)) && decide (x (f z) = z)) && decide (f z = i)) (fun z w z0 z1 w0 w1 hz hw => by
            rw [Bool.and_eq_true, Bool.and_eq_true, decide_eq_true_eq, decide_eq_true_eq] at hz hw
            rw [← hz.1.2, ← hw.1.2, hz.2, hw.2])
          omega
      · -- a goes on top of a chain
        have : ∃ i, 0 ≤ i ∧ i < k ∧ apr d a (x i) = false := by
          rcases Classical.em (∃ i, 0 ≤ i ∧ i < k ∧ apr d a (x i) = false) with q | q
          · exact q
          · exact absurd (fun i i0 i1 => by
              cases hq : apr d a (x i) with
              | true => rfl
              | false => exact absurd ⟨i, i0, i1, hq⟩ q) hex
        obtain ⟨i, i0, i1, hai⟩ := this
        obtain ⟨x0, x1, ⟨xS, xf, xT⟩, xm⟩ := hx i i0 i1
        have hxa : rel d (x i) a = true := by
          rcases apr_cases hai (fun q => xS.2 q.symm) with q | q
          · rw [hamax (x i) x0 x1 xS.1] at q; cases q
          · exact q
        have hS2 : ∀ z, ((S z && decide (z ≠ a)) && !(decide (f z = i) && (decide (z = x i) || rel d z (x i)))) = true ↔ (S z = true ∧ z ≠ a) ∧ ¬ (f z = i ∧ (z = x i ∨ rel d z (x i) = true)) := fun z => by
          rw [Bool.and_eq_true, hS', Bool.not_eq_true', ← Bool.not_eq_true, Bool.and_eq_true, Bool.or_eq_true, decide_eq_true_eq, decide_eq_true_eq]
        have hlt2 : sz m (fun z => (S z && decide (z ≠ a)) && !(decide (f z = i) && (decide (z = x i) || rel d z (x i)))) + 1 ≤ sz m S := by
          unfold sz
          refine sumZ_le1 (j := a) ⟨a0, a1⟩ ?_ (fun c _ _ => B_mono (fun h => ((hS2 c).mp h).1.1))
          show B (S a) ≥ B ((S a && decide (a ≠ a)) && _) + 1
          rw [aS, show decide (a ≠ a) = false by simp, Bool.and_false, Bool.false_and]; decide
        have hnn2 : 0 ≤ sz m (fun z => (S z && decide (z ≠ a)) && !(decide (f z = i) && (decide (z = x i) || rel d z (x i)))) := (sumZ_b01 hm.1 _).1
        obtain ⟨k2, f2, T2, hk2, hC2, hT2, hT2k⟩ := ih (sz m (fun z => (S z && decide (z ≠ a)) && !(decide (f z = i) && (decide (z = x i) || rel d z (x i))))).toNat (by omega) (fun z => (S z && decide (z ≠ a)) && !(decide (f z = i) && (decide (z = x i) || rel d z (x i)))) (by omega)
        have hT2' : AC m d (fun z => S z && decide (z ≠ a)) T2 := ⟨fun z z0 z1 hz => (hS' z).mpr ((hS2 z).mp (hT2.1 z z0 z1 hz)).1, hT2.2⟩
        have hle := ac_le hk hT2' hC
        have hne2 : k2 ≠ k := by
          intro q
          obtain ⟨z, z0, z1, z2, z3⟩ := ac_hit hk hT2' hC (by omega) ⟨i0, i1⟩
          have hz := (hS2 z).mp (hT2.1 z z0 z1 z2)
          exact hz.2 ⟨z3, htop i i0 i1 z z0 z1 hz.1 z3 ⟨T2, hT2', by omega, z2⟩⟩
        have hCC : CC m d S (fun z => if ((S z && decide (z ≠ a)) && !(decide (f z = i) && (decide (z = x i) || rel d z (x i)))) then f2 z else k2) (k2 + 1) := by
          have hout : ∀ z, S z = true → ¬ ((S z && decide (z ≠ a)) && !(decide (f z = i) && (decide (z = x i) || rel d z (x i)))) = true → z = a ∨ (S z = true ∧ z ≠ a) ∧ f z = i ∧ (z = x i ∨ rel d z (x i) = true) := by
            intro z hz hq
            rw [hS2] at hq
            rcases Classical.em (z = a) with w | w
            · exact Or.inl w
            · right
              refine ⟨⟨hz, w⟩, ?_⟩
              rcases Classical.em (f z = i ∧ (z = x i ∨ rel d z (x i) = true)) with r | r
              · exact r
              · exact absurd ⟨⟨hz, w⟩, r⟩ hq
          have hba : ∀ z, 0 ≤ z → z < m → (z = x i ∨ rel d z (x i) = true) → rel d z a = true := fun z z0 z1 hz => by
            rcases hz with q | q
            · rw [q]; exact hxa
            · exact hP.2.2 z (x i) a z0 z1 x0 x1 a0 a1 q hxa
          refine ⟨fun z z0 z1 hz => ?_, fun z w z0 z1 w0 w1 hz hw he hne => ?_⟩
          · dsimp only
            by_cases q : ((S z && decide (z ≠ a)) && !(decide (f z = i) && (decide (z = x i) || rel d z (x i)))) = true
            · rw [if_pos q]; have := hC2.1 z z0 z1 q; omega
            · rw [if_neg q]; omega
          · have he' : (if ((S z && decide (z ≠ a)) && !(decide (f z = i) && (decide (z = x i) || rel d z (x i)))) = true then f2 z else k2) = (if ((S w && decide (w ≠ a)) && !(decide (f w = i) && (decide (w = x i) || rel d w (x i)))) = true then f2 w else k2) := he
            by_cases qz : ((S z && decide (z ≠ a)) && !(decide (f z = i) && (decide (z = x i) || rel d z (x i)))) = true <;> by_cases qw : ((S w && decide (w ≠ a)) && !(decide (f w = i) && (decide (w = x i) || rel d w (x i)))) = true
            · rw [if_pos qz, if_pos qw] at he'
              exact hC2.2 z w z0 z1 w0 w1 qz qw he' hne
            · rw [if_pos qz, if_neg qw] at he'
              have := hC2.1 z z0 z1 qz; omega
            · rw [if_neg qz, if_pos qw] at he'
              have := hC2.1 w w0 w1 qw; omega
            · rcases hout z hz qz with hz1 | hz1 <;> rcases hout w hw qw with hw1 | hw1
              · exact absurd (by rw [hz1, hw1]) hne
              · rw [hz1, apr_comm]; exact apr_of_rel (hba w w0 w1 hw1.2.2)
              · rw [hw1]; exact apr_of_rel (hba z z0 z1 hz1.2.2)
              · exact hC.2 z w z0 z1 w0 w1 ((hS' z).mpr hz1.1) ((hS' w).mpr hw1.1) (by omega) hne
        have hT0S : AC m d S T0 := ⟨fun z z0 z1 hz => ((hS' z).mp (hT0.1 z z0 z1 hz)).1, hT0.2⟩
        have := ac_le (by omega) hT0S hCC
        have e : k2 + 1 = k := by omega
        rw [e] at hCC
        exact ⟨k, _, T0, hk, hCC, hT0S, hT0k⟩
    · exact ⟨0, fun _ => 0, fun _ => false, by omega, ⟨fun z z0 z1 hz => absurd ⟨z, z0, z1, hz⟩ hno, fun z w z0 z1 _ _ hz => absurd ⟨z, z0, z1, hz⟩ hno⟩, ⟨fun z _ _ hz => (by cases hz), fun z w _ _ _ _ hz => (by cases hz)⟩, sumZ_0f (fun _ _ _ => rfl)⟩
theorem wide_ge (hm : 0 ≤ m ∧ m ≤ 10) {s : Int} (hs : 0 ≤ s ∧ s < p2 m) (ha : anti m d s = true) : cnt s ≤ cnt (wide m d) := by
  have hp := p2_b hm
  have key : ∀ k : Nat, s < (k : Int) → cnt s ≤ cnt (foldZ (k : Int) (wstep m d) 0) := by
    intro k
    induction k with
    | zero => intro h; omega
    | succ k ih =>
      intro hk
      rw [show ((k + 1 : Nat) : Int) = (k : Int) + 1 by omega, foldZ_s (by omega)]
      generalize foldZ (k : Int) (wstep m d) 0 = b at ih ⊢
      unfold wstep
      by_cases hq : s = k
      · rw [← hq]
        by_cases hc : (anti m d s && (decide (0 < cnt s - cnt b) || (decide (cnt s - cnt b = 0) && ahd s b))) = true
        · rw [if_pos hc]; exact Int.le_refl _
        · rw [if_neg hc]
          rw [ha, Bool.true_and, Bool.or_eq_true, decide_eq_true_eq] at hc
          rcases Int.lt_or_le 0 (cnt s - cnt b) with w | w
          · exact absurd (Or.inl w) hc
          · omega
      · have := ih (by omega)
        split
        · rename_i hc
          rw [Bool.and_eq_true, Bool.or_eq_true, decide_eq_true_eq, Bool.and_eq_true, decide_eq_true_eq] at hc
          rcases hc.2 with w | w
          · omega
          · have := w.1; omega
        · exact this
  have := key (p2 m).toNat (by omega)
  rw [show (((p2 m).toNat : Nat) : Int) = p2 m by omega] at this
  exact this
theorem usd_gt {g : XX} : ∀ t : Nat, (0 ≤ usd g t) ∧ ∀ i, 0 ≤ i → i < (t : Int) → g i < usd g t := by
  intro t
  induction t with
  | zero => exact ⟨Int.le_refl 0, fun i h0 h1 => by omega⟩
  | succ t ih =>
    have e : usd g ((t + 1 : Nat) : Int) = if usd g t ≤ g t then g t + 1 else usd g t := by
      rw [show ((t + 1 : Nat) : Int) = (t : Int) + 1 by omega]
      show foldZ ((t : Int) + 1) _ 0 = _
      rw [foldZ_s (by omega)]
      rfl
    rw [e]
    by_cases h : usd g t ≤ g t
    · rw [if_pos h]
      refine ⟨by omega, fun i i0 i1 => ?_⟩
      by_cases hi : i = t
      · rw [hi]; omega
      · have := ih.2 i i0 (by omega); omega
    · rw [if_neg h]
      refine ⟨ih.1, fun i i0 i1 => ?_⟩
      by_cases hi : i = t
      · rw [hi]; omega
      · exact ih.2 i i0 (by omega)
theorem renum {W : Int} {f : XX} (hf : ∀ a, 0 ≤ a → a < m → 0 ≤ f a ∧ f a < W) (hc : ∀ a b, 0 ≤ a → a < m → 0 ≤ b → b < m → f a = f b → a ≠ b → apr d a b = false) : ∀ t : Nat, (t : Int) ≤ m → ∃ g : XX, (∀ a, 0 ≤ a → a < m → 0 ≤ g a ∧ g a < W) ∧ (∀ a b, 0 ≤ a → a < m → 0 ≤ b → b < m → g a = g b → a ≠ b → apr d a b = false) ∧ ∀ i, 0 ≤ i → i < (t : Int) → g i ≤ usd g i := by
  intro t
  induction t with
  | zero => intro _; exact ⟨f, hf, hc, fun i h0 h1 => by omega⟩
  | succ t ih =>
    intro ht
    obtain ⟨g, g1, g2, g3⟩ := ih (by omega)
    have hu := usd_gt (g := g) t
    have hgt := g1 t (by omega) (by omega)
    rcases Int.lt_or_le (usd g t) (g t) with hlt | hle
    · refine ⟨fun i => if g i = g t then usd g t else if g i = usd g t then g t else g i, fun a a0 a1 => ?_, fun a b a0 a1 b0 b1 he hne => ?_, fun i i0 i1 => ?_⟩
      · show 0 ≤ (if g a = g t then usd g t else if g a = usd g t then g t else g a) ∧ (if g a = g t then usd g t else if g a = usd g t then g t else g a) < W
        have := g1 a a0 a1
        split
        · omega
        · split <;> omega
      · refine g2 a b a0 a1 b0 b1 ?_ hne
        have he' : (if g a = g t then usd g t else if g a = usd g t then g t else g a) = (if g b = g t then usd g t else if g b = usd g t then g t else g b) := he
        split at he' <;> split at he' <;> (try split at he') <;> (try split at he') <;> omega
      · have hlow : ∀ j, 0 ≤ j → j < (t : Int) → (if g j = g t then usd g t else if g j = usd g t then g t else g j) = g j := fun j j0 j1 => by
          have := hu.2 j j0 j1
          rw [if_neg (by omega), if_neg (by omega)]
        have e : usd (fun i => if g i = g t then usd g t else if g i = usd g t then g t else g i) i = usd g i := usd_congr (fun j j0 j1 => hlow j j0 (by omega))
        rw [e]
        by_cases hi : i = t
        · show (if g i = g t then usd g t else if g i = usd g t then g t else g i) ≤ _
          rw [hi, if_pos rfl]; exact Int.le_refl _
        · show (if g i = g t then usd g t else if g i = usd g t then g t else g i) ≤ _
          rw [hlow i i0 (by omega)]
          exact g3 i i0 (by omega)
    · refine ⟨g, g1, g2, fun i i0 i1 => ?_⟩
      by_cases hi : i = t
      · rw [hi]; exact hle
      · exact g3 i i0 (by omega)
/-- chains enough -/
theorem ch_some (hP : PO m d) : chR m d ≠ none := by
  have hm := hP.1.1
  have hp := p2_b hm
  obtain ⟨k, f, T, hk, hC, hT, hTk⟩ := dilworth hP (sz m (fun _ => true)).toNat (fun _ => true) (Int.toNat_of_nonneg (sumZ_b01 hm.1 (fun _ : Int => true)).1).symm
  have hmk := mk_lt hm T
  have hmp := mk_p2 hm T
  have hbm : ∀ a, 0 ≤ a → bt (mk m T) a = (decide (a < m) && T a) := fun a a0 => bt_mk (by omega) T a0
  have hcnt : cnt (mk m T) = k := by
    rw [cnt_m hm ⟨hmk.1, hmp⟩, ← hTk]
    unfold sz
    exact sumZ_congr (fun a a0 a1 => by rw [hbm a a0, decide_eq_true a1, Bool.true_and])
  have hanti : anti m d (mk m T) = true := by
    unfold anti
    rw [allB_iff]
    intro a a0 a1
    rw [hbm a a0, decide_eq_true a1, Bool.true_and]
    cases ha : T a with
    | false => rfl
    | true =>
      show (false || _) = true
      rw [Bool.false_or, dis_iff (hP.1.nn ⟨a0, by omega⟩) (nn10 hmk)]
      intro b b0 _ hb
      have hbl := rel_lt hP.1 (a := b) (b := a) ⟨a0, by omega⟩ hb
      rw [hbm b b0]
      cases hTb : T b with
      | false => simp
      | true =>
        exfalso
        have hne : b ≠ a := fun q => by rw [q, show bt (d a) a = false from hP.2.1 a a0 a1] at hb; cases hb
        have := apr_iff.mp (hT.2 b a b0 hbl a0 a1 hTb ha hne)
        rw [show rel d b a = true from hb] at this
        exact absurd this.2.1 (by decide)
  have hW := wide_ge hm ⟨hmk.1, hmp⟩ hanti
  obtain ⟨g, g1, g2, g3⟩ := renum (m := m) (d := d) (W := cnt (wide m d)) (f := f) (fun a a0 a1 => by have := hC.1 a a0 a1 rfl; omega) (fun a b a0 a1 b0 b1 he hne => hC.2 a b a0 a1 b0 b1 rfl rfl he hne) m.toNat (by omega)
  unfold chR
  refine dfs_compl (z := g) hm.1 (chP_loc d _) (fun i i0 i1 => ⟨?_, g1 i i0 i1⟩)
  unfold chP
  rw [Bool.and_eq_true, Bool.and_eq_true, allB_iff, decide_eq_true_eq, decide_eq_true_eq]
  refine ⟨fun a a0 a1 => ?_, g3 i i0 (by omega), (g1 i i0 i1).2⟩
  by_cases he : g a = g i
  · rw [decide_eq_true he, g2 a i a0 (by omega) i0 i1 he (by omega)]; rfl
  · rw [decide_eq_false he]; rfl
end DIL
