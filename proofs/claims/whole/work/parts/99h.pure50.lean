/-! ===== fewest jumps: the class and the model alike ===== -/
def mnZ (n : Int) (f : Int → Int) (z : Int) : Int := foldZ n (fun b l => if f l < b then f l else b) z
theorem mnZ_s {n : Int} (hn : 0 ≤ n) (f : Int → Int) (z : Int) : mnZ (n + 1) f z = if f n < mnZ n f z then f n else mnZ n f z := foldZ_s hn _ _
theorem mnZ_sp {f : Int → Int} {z : Int} : ∀ k : Nat, mnZ k f z ≤ z ∧ (∀ l, 0 ≤ l → l < (k : Int) → mnZ k f z ≤ f l) ∧ (mnZ k f z = z ∨ ∃ l, 0 ≤ l ∧ l < (k : Int) ∧ mnZ k f z = f l) := by
  intro k
  induction k with
  | zero => exact ⟨Int.le_refl _, fun l h0 h1 => by omega, Or.inl rfl⟩
  | succ k ih =>
    obtain ⟨h1, h2, h3⟩ := ih
    rw [show ((k + 1 : Nat) : Int) = (k : Int) + 1 by omega, mnZ_s (by omega)]
    by_cases h : f k < mnZ k f z
    · rw [if_pos h]
      refine ⟨by omega, fun l l0 l1 => ?_, Or.inr ⟨k, by omega, by omega, rfl⟩⟩
      by_cases hl : l = k
      · rw [hl]; exact Int.le_refl _
      · have := h2 l l0 (by omega); omega
    · rw [if_neg h]
      refine ⟨h1, fun l l0 l1 => ?_, ?_⟩
      · by_cases hl : l = k
        · rw [hl]; omega
        · exact h2 l l0 (by omega)
      · rcases h3 with q | ⟨l, l0, l1, l2⟩
        · exact Or.inl q
        · exact Or.inr ⟨l, l0, by omega, l2⟩
theorem mnZ_eq {n : Int} {f : Int → Int} {z v : Int} (hn : 0 ≤ n) (hz : v ≤ z) (hle : ∀ l, 0 ≤ l → l < n → v ≤ f l) (hat : v = z ∨ ∃ l, 0 ≤ l ∧ l < n ∧ f l = v) : mnZ n f z = v := by
  have h := mnZ_sp (f := f) (z := z) n.toNat
  rw [show ((n.toNat : Nat) : Int) = n by omega] at h
  obtain ⟨h1, h2, h3⟩ := h
  have a1 : v ≤ mnZ n f z := by
    rcases h3 with q | ⟨l, l0, l1, l2⟩
    · omega
    · have := hle l l0 l1; omega
  have a2 : mnZ n f z ≤ v := by
    rcases hat with q | ⟨l, l0, l1, l2⟩
    · omega
    · have := h2 l l0 l1; omega
  omega
section JMP
variable {m : Int} {d : Int → Int}
theorem jmL_fold (hm : 0 ≤ m ∧ m ≤ 10) {s c : Int} (hs : 0 ≤ s ∧ s < p2 m) (hc : 0 ≤ c ∧ c < m) (hcan : can d s c = true) (J : Int → Int) : ∀ k : Nat, (k : Int) ≤ m → foldG (k : Int) (jmL d s c) J = up J (10 * plus s c + c) (mnZ k (jvv d s c J) (J (10 * plus s c + c))) := by
  have hp := p2_b hm
  have hgt := plus_gt (s := s) (c := c) ⟨hs.1, by omega⟩ ⟨hc.1, by omega⟩ (may_nb hcan)
  intro k
  induction k with
  | zero =>
    intro _
    funext t
    show J t = if t = 10 * plus s c + c then J (10 * plus s c + c) else J t
    split
    · rename_i h; rw [h]
    · rfl
  | succ k ih =>
    intro hk
    rw [show ((k + 1 : Nat) : Int) = (k : Int) + 1 by omega, foldG_s (by omega), ih (by omega)]
    have e : jvv d s c (up J (10 * plus s c + c) (mnZ k (jvv d s c J) (J (10 * plus s c + c)))) k = jvv d s c J k := by
      unfold jvv up
      rw [if_neg (show ¬ 10 * s + (k : Int) = 10 * plus s c + c by omega)]
    funext t
    rw [jmL_at, e]
    unfold up
    by_cases ht : t = 10 * plus s c + c
    · rw [if_pos ht, if_pos ht, if_pos ht, mnZ_s (by omega)]
    · rw [if_neg ht, if_neg ht, if_neg ht]
def jR (m : Int) (d : Int → Int) (t l : Int) : Prop := bt t l = true ∧ can d (less t l) l = true ∧ wy m d (less t l) ≠ 0
def jDn (k c t l : Int) : Prop := less t l < k ∨ (less t l = k ∧ l < c)
def jMin (m t : Int) (J : Int → Int) (A : Int) : Prop := (t = 0 ∧ A = 0) ∨ (t ≠ 0 ∧ ((A = 10 ∧ ∀ l, 0 ≤ l → l < m → J (10 * t + l) = 100) ∨ (A < 10 ∧ (∃ l, 0 ≤ l ∧ l < m ∧ J (10 * t + l) = A) ∧ ∀ l, 0 ≤ l → l < m → A ≤ J (10 * t + l))))
def JI (m : Int) (d : Int → Int) (k c : Int) (J : Int → Int) (q : XX × XX) : Prop := ∀ t, 0 ≤ t → t < p2 m →
  (∀ l, 0 ≤ l → l < m → (J (10 * t + l) < 100 ↔ jR m d t l ∧ jDn k c t l) ∧ (0 ≤ J (10 * t + l) ∧ J (10 * t + l) ≤ 100) ∧ (J (10 * t + l) < 100 → J (10 * t + l) + 1 ≤ cnt t)) ∧
  jMin m t J (q.1 t) ∧ (0 ≤ q.2 t ∧ q.2 t < 1024) ∧ ∀ l, 0 ≤ l → l < m → (bt (q.2 t) l = true ↔ J (10 * t + l) < 100 ∧ J (10 * t + l) = q.1 t)
theorem wy_pre (hm : 0 ≤ m ∧ m ≤ 10) {t : Int} (ht : 0 ≤ t ∧ t < p2 m) (h0 : t ≠ 0) : wy m d t ≠ 0 ↔ ∃ l, 0 ≤ l ∧ l < m ∧ jR m d t l := by
  constructor
  · intro hw
    rcases Classical.em (∃ l, 0 ≤ l ∧ l < m ∧ jR m d t l) with q | q
    · exact q
    · exfalso
      apply hw
      rw [wy_rec hm ht, decide_eq_false h0, sumZ_0f (fun e e0 e1 => ?_)]
      · rfl
      · show (if bt t e && can d (less t e) e then wy m d (less t e) else 0) = 0
        by_cases hb : (bt t e && can d (less t e) e) = true
        · rw [if_pos hb]
          rw [Bool.and_eq_true] at hb
          rcases Classical.em (wy m d (less t e) = 0) with r | r
          · exact r
          · exact absurd ⟨e, e0, e1, hb.1, hb.2, r⟩ q
        · rw [if_neg hb]
  · rintro ⟨l, l0, l1, h1, h2, h3⟩
    have hp := p2_b hm
    have := wy_up hm (less_in hm ht ⟨l0, l1⟩) ⟨l0, l1⟩ h3 h2
    rw [plus_less ⟨ht.1, by omega⟩ ⟨l0, by omega⟩ h1] at this
    exact this
theorem less_lt (hm : 0 ≤ m ∧ m ≤ 10) {t l : Int} (ht : 0 ≤ t ∧ t < p2 m) (hl : 0 ≤ l ∧ l < m) (hb : bt t l = true) : less t l < t := by
  have hp := p2_b hm
  have hn : nn t := ⟨ht.1, by omega⟩
  have h1 := plus_gt (s := less t l) (c := l) (nn_less hn ⟨hl.1, by omega⟩) ⟨hl.1, by omega⟩ (by rw [bt_less hn ⟨hl.1, by omega⟩ hl.1, decide_eq_true rfl]; simp)
  rw [plus_less hn ⟨hl.1, by omega⟩ hb] at h1
  exact h1
theorem JI_same (hm : 0 ≤ m ∧ m ≤ 10) {k c : Int} {J : Int → Int} {q : XX × XX} (hk : 0 ≤ k ∧ k < p2 m) (hc : 0 ≤ c ∧ c < m) (h : JI m d k c J q) (hno : ¬ (can d k c = true ∧ wy m d k ≠ 0)) : JI m d k (c + 1) J q := by
  intro t t0 t1
  obtain ⟨h1, h2, h3, h4⟩ := h t t0 t1
  refine ⟨fun l l0 l1 => ?_, h2, h3, h4⟩
  obtain ⟨g1, g2, g3⟩ := h1 l l0 l1
  refine ⟨?_, g2, g3⟩
  rw [g1]
  constructor
  · rintro ⟨r, dn⟩
    refine ⟨r, ?_⟩
    rcases dn with q | ⟨q1, q2⟩
    · exact Or.inl q
    · exact Or.inr ⟨q1, by omega⟩
  · rintro ⟨r, dn⟩
    refine ⟨r, ?_⟩
    rcases dn with q | ⟨q1, q2⟩
    · exact Or.inl q
    · by_cases hl : l = c
      · exfalso
        apply hno
        rw [← q1, ← hl]
        exact ⟨r.2.1, r.2.2⟩
      · exact Or.inr ⟨q1, by omega⟩
/-- what the step finds -/
theorem j_val (hP : PO m d) {k c : Int} {J : Int → Int} {q : XX × XX} (hk : 0 ≤ k ∧ k < p2 m) (hc : 0 ≤ c ∧ c < m) (h : JI m d k c J q) (hcan : can d k c = true) (hw : wy m d k ≠ 0) (hJ : J (10 * plus k c + c) = 100) : mnZ m (jvv d k c J) 100 = sjF d k q c ∧ 0 ≤ sjF d k q c ∧ sjF d k q c ≤ cnt k ∧ sjF d k q c ≤ 9 := by
  have hm := hP.1.1
  have hp := p2_b hm
  obtain ⟨h1, h2, h3, h4⟩ := h k hk.1 hk.2
  have hcb := cnt_b k
  have hpl := plus_in hm hk hc
  have hck : cnt k ≤ 9 := by
    have e1 := cnt_plus (s := k) (c := c) ⟨hk.1, by omega⟩ ⟨hc.1, by omega⟩ (may_nb hcan)
    have e2 := cnt_b (plus k c)
    omega
  unfold sjF
  by_cases hz : k = 0
  · have hA : q.1 k = 0 := by
      rcases h2 with ⟨_, z⟩ | ⟨z, _⟩
      · exact z
      · exact absurd hz z
    rw [hA, show decide (k ≠ 0) = false by simpa using hz, Bool.false_and, show B false = 0 from rfl]
    refine ⟨mnZ_eq hm.1 (by omega) (fun l _ _ => ?_) (Or.inr ⟨0, by omega, by omega, ?_⟩), by omega, by omega, by omega⟩
    · unfold jvv; rw [if_pos hz]; omega
    · unfold jvv; rw [if_pos hz]; omega
  · obtain ⟨l, l0, l1, hr⟩ := (wy_pre hm hk hz).mp hw
    have hlt : J (10 * k + l) < 100 := ((h1 l l0 l1).1).mpr ⟨hr, Or.inl (less_lt hm hk ⟨l0, l1⟩ hr.1)⟩
    rcases h2 with ⟨z, _⟩ | ⟨_, ⟨_, z⟩ | ⟨hA, ⟨l', l0', l1', he⟩, hmin⟩⟩
    · exact absurd z hz
    · have := z l l0 l1; omega
    · have hb' := h1 l' l0' l1'
      have hAc : q.1 k + 1 ≤ cnt k := by have := hb'.2.2 (by omega); omega
      have hin : ∀ e, 0 ≤ e → e < m → J (10 * k + e) < 100 → bt k e = true := fun e e0 e1 he => (((h1 e e0 e1).1).mp he).1.1
      have hjv : ∀ e, 0 ≤ e → e < m → jvv d k c J e = if bt k e then J (10 * k + e) + B (!rel d e c) else 100 := fun e _ _ => by unfold jvv; rw [if_neg hz]
      have hnd : nn (d c) := hP.1.nn ⟨hc.1, by omega⟩
      rw [show decide (k ≠ 0) = true by simpa using hz, Bool.true_and]
      by_cases hd : dis (q.2 k) (d c) = true
      · rw [hd, show B true = 1 from rfl]
        have hdd := (dis_iff (nn10 h3) hnd).mp hd
        have hno : ∀ e, 0 ≤ e → e < m → J (10 * k + e) = q.1 k → rel d e c = false := fun e e0 e1 he => hdd e e0 (by omega) ((h4 e e0 e1).mpr ⟨by omega, he⟩)
        refine ⟨mnZ_eq hm.1 (by omega) (fun e e0 e1 => ?_) (Or.inr ⟨l', l0', l1', ?_⟩), by have := hb'.2.1; omega, by omega, by omega⟩
        · rw [hjv e e0 e1]
          by_cases hb : bt k e = true
          · rw [if_pos hb]
            have := hmin e e0 e1
            have hB := B_01 (!rel d e c)
            by_cases hq : J (10 * k + e) = q.1 k
            · rw [hno e e0 e1 hq, show B (!false) = 1 from rfl]; omega
            · omega
          · rw [if_neg hb]; omega
        · rw [hjv l' l0' l1', if_pos (hin l' l0' l1' (by omega)), hno l' l0' l1' he, show B (!false) = 1 from rfl]; omega
      · have hd' : dis (q.2 k) (d c) = false := by simpa using hd
        rw [hd', show B false = 0 from rfl, Int.add_zero]
        have hex : ∃ e, 0 ≤ e ∧ e < m ∧ bt (q.2 k) e = true ∧ rel d e c = true := by
          rcases Classical.em (∃ e, 0 ≤ e ∧ e < m ∧ bt (q.2 k) e = true ∧ rel d e c = true) with z | z
          · exact z
          · exfalso
            apply hd
            rw [dis_iff (nn10 h3) hnd]
            intro e e0 _ hb
            cases hr : bt (d c) e with
            | false => rfl
            | true => exact absurd ⟨e, e0, rel_lt hP.1 (a := e) (b := c) ⟨hc.1, by omega⟩ hr, hb, hr⟩ z
        obtain ⟨e, e0, e1, e2, e3⟩ := hex
        have e4 := (h4 e e0 e1).mp e2
        refine ⟨mnZ_eq hm.1 (by omega) (fun x x0 x1 => ?_) (Or.inr ⟨e, e0, e1, ?_⟩), by have := hb'.2.1; omega, by omega, by omega⟩
        · rw [hjv x x0 x1]
          have := hmin x x0 x1
          have hB := B_01 (!rel d x c)
          split <;> omega
        · rw [hjv e e0 e1, if_pos (hin e e0 e1 e4.1), e3, show B (!true) = 0 from rfl]; omega
theorem JI_step (hP : PO m d) {k c : Int} {J : Int → Int} {q : XX × XX} (hk : 0 ≤ k ∧ k < p2 m) (hc : 0 ≤ c ∧ c < m) (h : JI m d k c J q) (hcan : can d k c = true) (hw : wy m d k ≠ 0) : JI m d k (c + 1) (foldG m (jmL d k c) J) (sjC d k q c) := by
  have hm := hP.1.1
  have hp := p2_b hm
  have hkn : nn k := ⟨hk.1, by omega⟩
  have hc31 : 0 ≤ c ∧ c < 31 := ⟨hc.1, by omega⟩
  have hpl := plus_in hm hk hc
  have hnb := may_nb hcan
  have hls : less (plus k c) c = k := less_plus hkn hc31 hnb
  have hbt : bt (plus k c) c = true := by rw [bt_plus hkn hc31 hc.1]; simp
  have ht0 : plus k c ≠ 0 := fun z => by rw [z, bt_0] at hbt; cases hbt
  obtain ⟨t1, t2, t3, t4⟩ := h (plus k c) hpl.1 hpl.2
  have hJ : J (10 * plus k c + c) = 100 := by
    obtain ⟨g1, g2, g3⟩ := t1 c hc.1 hc.2
    rcases Int.lt_or_le (J (10 * plus k c + c)) 100 with z | z
    · have := (g1.mp z).2
      rcases this with w | w
      · rw [hls] at w; omega
      · omega
    · omega
  obtain ⟨hv, hf0, hfc, hf9⟩ := j_val hP hk hc h hcan hw hJ
  have hcnt := cnt_plus hkn (c := c) ⟨hc.1, by omega⟩ hnb
  have eJ : foldG m (jmL d k c) J = up J (10 * plus k c + c) (sjF d k q c) := by
    have := jmL_fold hm hk hc hcan J m.toNat (by omega)
    rw [show ((m.toNat : Nat) : Int) = m by omega] at this
    rw [this, hJ, hv]
  rw [eJ]
  generalize hf : sjF d k q c = f at hf0 hfc hf9 hv ⊢
  have hJo : ∀ t l, 0 ≤ l → l < m → (t ≠ plus k c ∨ l ≠ c) → up J (10 * plus k c + c) f (10 * t + l) = J (10 * t + l) := fun t l l0 l1 hne => if_neg (by omega)
  have hJs : up J (10 * plus k c + c) f (10 * plus k c + c) = f := if_pos rfl
  have hdn : ∀ t l, 0 ≤ t → t < p2 m → 0 ≤ l → l < m → (t ≠ plus k c ∨ l ≠ c) → jR m d t l → (jDn k c t l ↔ jDn k (c + 1) t l) := by
    intro t l t0 t1 l0 l1 hne hr
    constructor
    · rintro (z | ⟨z1, z2⟩)
      · exact Or.inl z
      · exact Or.inr ⟨z1, by omega⟩
    · rintro (z | ⟨z1, z2⟩)
      · exact Or.inl z
      · by_cases hl : l = c
        · exfalso
          have : plus (less t l) l = t := plus_less ⟨t0, by omega⟩ ⟨l0, by omega⟩ hr.1
          rw [z1, hl] at this
          omega
        · exact Or.inr ⟨z1, by omega⟩
  have P1 : ∀ t, 0 ≤ t → t < p2 m → ∀ l, 0 ≤ l → l < m → (up J (10 * plus k c + c) f (10 * t + l) < 100 ↔ jR m d t l ∧ jDn k (c + 1) t l) ∧ (0 ≤ up J (10 * plus k c + c) f (10 * t + l) ∧ up J (10 * plus k c + c) f (10 * t + l) ≤ 100) ∧ (up J (10 * plus k c + c) f (10 * t + l) < 100 → up J (10 * plus k c + c) f (10 * t + l) + 1 ≤ cnt t) := by
    intro t t0 t1' l l0 l1
    by_cases hh : t = plus k c ∧ l = c
    · rw [hh.1, hh.2, hJs]
      refine ⟨⟨fun _ => ⟨⟨hbt, by rw [hls]; exact hcan, by rw [hls]; exact hw⟩, Or.inr ⟨hls, by omega⟩⟩, fun _ => by omega⟩, by omega, fun _ => by omega⟩
    · have hne : t ≠ plus k c ∨ l ≠ c := by
        by_cases z : t = plus k c
        · exact Or.inr (fun w => hh ⟨z, w⟩)
        · exact Or.inl z
      rw [hJo t l l0 l1 hne]
      obtain ⟨g1, g2, g3⟩ := (h t t0 t1').1 l l0 l1
      refine ⟨?_, g2, g3⟩
      rw [g1]
      exact ⟨fun z => ⟨z.1, (hdn t l t0 t1' l0 l1 hne z.1).mp z.2⟩, fun z => ⟨z.1, (hdn t l t0 t1' l0 l1 hne z.1).mpr z.2⟩⟩
  -- what the class does
  have hq : ∀ t, t ≠ plus k c → (sjC d k q c).1 t = q.1 t ∧ (sjC d k q c).2 t = q.2 t := by
    intro t ht
    unfold sjC
    rw [if_pos hcan, hf]
    split
    · exact ⟨if_neg ht, if_neg ht⟩
    · split
      · exact ⟨rfl, if_neg ht⟩
      · exact ⟨rfl, rfl⟩
  have hsh : nn (zshl 1 c) := nn_zshl1 hc31
  have hsh10 := shl10 (a := c) ⟨hc.1, by omega⟩
  have hbz : ∀ l, 0 ≤ l → bt (zor 0 (zshl 1 c)) l = decide (c = l) := fun l l0 => by
    rw [bt_zor ⟨by omega, by omega⟩ hsh, bt_0, bt_zshl1 hc31 l0]; rfl
  intro t t0 t1'
  by_cases ht : t = plus k c
  · refine ⟨P1 t t0 t1', ?_⟩
    rw [ht]
    have hup : ∀ l, 0 ≤ l → l < m → up J (10 * plus k c + c) f (10 * plus k c + l) = if l = c then f else J (10 * plus k c + l) := fun l l0 l1 => by
      by_cases hl : l = c
      · rw [if_pos hl, hl]; exact hJs
      · rw [if_neg hl]; exact hJo _ l l0 l1 (Or.inr hl)
    rcases Int.lt_trichotomy f (q.1 (plus k c)) with hlt | heq | hgt
    · have e : sjC d k q c = (up q.1 (plus k c) f, up q.2 (plus k c) (zor 0 (zshl 1 c))) := sjC_lt hcan hf.symm hlt
      rw [e]
      have e1 : up q.1 (plus k c) f (plus k c) = f := if_pos rfl
      have e2 : up q.2 (plus k c) (zor 0 (zshl 1 c)) (plus k c) = zor 0 (zshl 1 c) := if_pos rfl
      show jMin m (plus k c) _ (up q.1 (plus k c) f (plus k c)) ∧ (0 ≤ up q.2 (plus k c) (zor 0 (zshl 1 c)) (plus k c) ∧ up q.2 (plus k c) (zor 0 (zshl 1 c)) (plus k c) < 1024) ∧ ∀ l, 0 ≤ l → l < m → (bt (up q.2 (plus k c) (zor 0 (zshl 1 c)) (plus k c)) l = true ↔ _ ∧ _ = up q.1 (plus k c) f (plus k c))
      rw [e1, e2]
      have hoth : ∀ l, 0 ≤ l → l < m → l ≠ c → f < J (10 * plus k c + l) := by
        intro l l0 l1 hl
        rcases t2 with ⟨z, _⟩ | ⟨_, ⟨_, z⟩ | ⟨_, _, z⟩⟩
        · exact absurd z ht0
        · rw [z l l0 l1]; omega
        · have := z l l0 l1; omega
      refine ⟨Or.inr ⟨ht0, Or.inr ⟨by omega, ⟨c, hc.1, hc.2, hJs⟩, fun l l0 l1 => ?_⟩⟩, zor10 ⟨by omega, by omega⟩ hsh10, fun l l0 l1 => ?_⟩
      · rw [hup l l0 l1]
        by_cases hl : l = c
        · rw [if_pos hl]; exact Int.le_refl _
        · rw [if_neg hl]; have := hoth l l0 l1 hl; omega
      · rw [hbz l l0, hup l l0 l1, decide_eq_true_eq]
        by_cases hl : l = c
        · rw [if_pos hl]; exact ⟨fun _ => ⟨by omega, rfl⟩, fun _ => hl.symm⟩
        · rw [if_neg hl]; have := hoth l l0 l1 hl; exact ⟨fun z => absurd z.symm hl, fun z => by omega⟩
    · have e : sjC d k q c = (q.1, up q.2 (plus k c) (zor (q.2 (plus k c)) (zshl 1 c))) := sjC_eq hcan hf.symm heq
      rw [e]
      have e2 : up q.2 (plus k c) (zor (q.2 (plus k c)) (zshl 1 c)) (plus k c) = zor (q.2 (plus k c)) (zshl 1 c) := if_pos rfl
      show jMin m (plus k c) _ (q.1 (plus k c)) ∧ (0 ≤ up q.2 (plus k c) (zor (q.2 (plus k c)) (zshl 1 c)) (plus k c) ∧ up q.2 (plus k c) (zor (q.2 (plus k c)) (zshl 1 c)) (plus k c) < 1024) ∧ ∀ l, 0 ≤ l → l < m → (bt (up q.2 (plus k c) (zor (q.2 (plus k c)) (zshl 1 c)) (plus k c)) l = true ↔ _ ∧ _ = q.1 (plus k c))
      rw [e2]
      refine ⟨?_, zor10 t3 hsh10, fun l l0 l1 => ?_⟩
      · rcases t2 with ⟨z, _⟩ | ⟨_, ⟨z, _⟩ | ⟨z1, z2, z3⟩⟩
        · exact absurd z ht0
        · omega
        · refine Or.inr ⟨ht0, Or.inr ⟨z1, ⟨c, hc.1, hc.2, by rw [hJs]; exact heq⟩, fun l l0 l1 => ?_⟩⟩
          rw [hup l l0 l1]
          split
          · omega
          · exact z3 l l0 l1
      · rw [bt_zor (nn10 t3) hsh, bt_zshl1 hc31 l0, Bool.or_eq_true, decide_eq_true_eq, t4 l l0 l1, hup l l0 l1]
        by_cases hl : l = c
        · rw [if_pos hl]; exact ⟨fun _ => ⟨by omega, heq⟩, fun _ => Or.inr hl.symm⟩
        · rw [if_neg hl]
          exact ⟨fun z => z.elim (fun w => w) (fun w => absurd w.symm hl), fun z => Or.inl z⟩
    · have e : sjC d k q c = (q.1, q.2) := sjC_gt hcan hf.symm hgt
      rw [e]
      show jMin m (plus k c) _ (q.1 (plus k c)) ∧ (0 ≤ q.2 (plus k c) ∧ q.2 (plus k c) < 1024) ∧ ∀ l, 0 ≤ l → l < m → (bt (q.2 (plus k c)) l = true ↔ _ ∧ _ = q.1 (plus k c))
      refine ⟨?_, t3, fun l l0 l1 => ?_⟩
      · rcases t2 with ⟨z, _⟩ | ⟨_, ⟨z, _⟩ | ⟨z1, ⟨l', z2, z3, z4⟩, z5⟩⟩
        · exact absurd z ht0
        · omega
        · have hl' : l' ≠ c := fun w => by rw [w, hJ] at z4; omega
          refine Or.inr ⟨ht0, Or.inr ⟨z1, ⟨l', z2, z3, by rw [hup l' z2 z3, if_neg hl']; exact z4⟩, fun l l0 l1 => ?_⟩⟩
          rw [hup l l0 l1]
          split
          · omega
          · exact z5 l l0 l1
      · rw [t4 l l0 l1, hup l l0 l1]
        by_cases hl : l = c
        · rw [if_pos hl, hl, hJ]; exact ⟨fun z => by omega, fun z => by omega⟩
        · rw [if_neg hl]
  · refine ⟨P1 t t0 t1', ?_⟩
    obtain ⟨s1, s2, s3, s4⟩ := h t t0 t1'
    have hup : ∀ l, 0 ≤ l → l < m → up J (10 * plus k c + c) f (10 * t + l) = J (10 * t + l) := fun l l0 l1 => hJo t l l0 l1 (Or.inl ht)
    rw [(hq t ht).1, (hq t ht).2]
    refine ⟨?_, s3, fun l l0 l1 => by rw [hup l l0 l1]; exact s4 l l0 l1⟩
    rcases s2 with z | ⟨z, ⟨z1, z2⟩ | ⟨z1, ⟨l', z2, z3, z4⟩, z5⟩⟩
    · exact Or.inl z
    · exact Or.inr ⟨z, Or.inl ⟨z1, fun l l0 l1 => by rw [hup l l0 l1]; exact z2 l l0 l1⟩⟩
    · exact Or.inr ⟨z, Or.inr ⟨z1, ⟨l', z2, z3, by rw [hup l' z2 z3]; exact z4⟩, fun l l0 l1 => by rw [hup l l0 l1]; exact z5 l l0 l1⟩⟩
/-- a set that no row out comes through gives nothing -/
theorem j_none (hP : PO m d) {k c : Int} {J : Int → Int} {q : XX × XX} (hk : 0 ≤ k ∧ k < p2 m) (hc : 0 ≤ c ∧ c < m) (h : JI m d k c J q) (hcan : can d k c = true) (hw : wy m d k = 0) : foldG m (jmL d k c) J = J := by
  have hm := hP.1.1
  have hp := p2_b hm
  have hz : k ≠ 0 := fun z => by rw [z, wy_00 hm] at hw; omega
  have hpl := plus_in hm hk hc
  have h1 := (h k hk.1 hk.2).1
  have hle := ((h (plus k c) hpl.1 hpl.2).1 c hc.1 hc.2).2.1
  have := jmL_fold hm hk hc hcan J m.toNat (by omega)
  rw [show ((m.toNat : Nat) : Int) = m by omega] at this
  rw [this, mnZ_eq (v := J (10 * plus k c + c)) hm.1 (Int.le_refl _) (fun l l0 l1 => ?_) (Or.inl rfl)]
  · funext t
    unfold up
    split
    · rename_i z; rw [z]
    · rfl
  · unfold jvv
    rw [if_neg hz]
    split
    · have hB := B_01 (!rel d l c)
      rcases Int.lt_or_le (J (10 * k + l)) 100 with z | z
      · exact absurd hw ((wy_pre hm hk hz).mpr ⟨l, l0, l1, ((h1 l l0 l1).1.mp z).1⟩)
      · omega
    · omega
theorem JI_row (hP : PO m d) {k : Int} {J : Int → Int} {q : XX × XX} (hk : 0 ≤ k ∧ k < p2 m) (h : JI m d k 0 J q) : JI m d (k + 1) 0 (jmI m d k J m) (if wy m d k = 0 then q else foldG m (sjC d k) q) := by
  have hm := hP.1.1
  have hp := p2_b hm
  have key : ∀ c : Nat, (c : Int) ≤ m → JI m d k c (jmI m d k J c) (if wy m d k = 0 then q else foldG (c : Int) (sjC d k) q) := by
    intro c
    induction c with
    | zero => intro _; split <;> exact h
    | succ c ih =>
      intro hc
      have ih := ih (by omega)
      rw [show ((c + 1 : Nat) : Int) = (c : Int) + 1 by omega, jmI_s (by omega), foldG_s (by omega)]
      unfold jmC
      by_cases hcan : can d k c = true
      · rw [if_pos hcan]
        by_cases hw : wy m d k = 0
        · rw [if_pos hw] at ih ⊢
          rw [j_none hP hk ⟨by omega, by omega⟩ ih hcan hw]
          exact JI_same hm hk ⟨by omega, by omega⟩ ih (fun z => z.2 hw)
        · rw [if_neg hw] at ih ⊢
          exact JI_step hP hk ⟨by omega, by omega⟩ ih hcan hw
      · rw [if_neg hcan]
        by_cases hw : wy m d k = 0
        · rw [if_pos hw] at ih ⊢
          exact JI_same hm hk ⟨by omega, by omega⟩ ih (fun z => hcan z.1)
        · rw [if_neg hw] at ih ⊢
          rw [sjC_no (by simpa using hcan)]
          exact JI_same hm hk ⟨by omega, by omega⟩ ih (fun z => hcan z.1)
  have h2 := key m.toNat (by omega)
  rw [show ((m.toNat : Nat) : Int) = m by omega] at h2
  intro t t0 t1
  obtain ⟨g1, g2⟩ := h2 t t0 t1
  refine ⟨fun l l0 l1 => ?_, g2⟩
  obtain ⟨a1, a2⟩ := g1 l l0 l1
  refine ⟨?_, a2⟩
  rw [a1]
  constructor
  · rintro ⟨r, z | ⟨z1, z2⟩⟩
    · exact ⟨r, Or.inl (by omega)⟩
    · exact ⟨r, Or.inl (by omega)⟩
  · rintro ⟨r, z | ⟨z1, z2⟩⟩
    · refine ⟨r, ?_⟩
      by_cases hq : less t l = k
      · exact Or.inr ⟨hq, l1⟩
      · exact Or.inl (by omega)
    · omega
theorem JI_all (hP : PO m d) : ∀ k : Nat, (k : Int) ≤ p2 m → JI m d k 0 (jmS m d k) (ljS m d k) := by
  have hm := hP.1.1
  have hp := p2_b hm
  intro k
  induction k with
  | zero =>
    intro _ t t0 t1
    refine ⟨fun l l0 l1 => ?_, ?_, ?_, fun l l0 l1 => ?_⟩
    · show ((100 : Int) < 100 ↔ _) ∧ (0 ≤ (100 : Int) ∧ (100 : Int) ≤ 100) ∧ ((100 : Int) < 100 → _)
      refine ⟨⟨fun z => by omega, fun z => ?_⟩, by omega, fun z => by omega⟩
      exfalso
      have := less_in hm ⟨t0, t1⟩ ⟨l0, l1⟩
      rcases z.2 with w | w
      · have w' : less t l < 0 := w
        omega
      · have w' := w.2
        have : l < 0 := w'
        omega
    · show jMin m t (fun _ => 100) (if t = 0 then 0 else 10)
      by_cases hz : t = 0
      · rw [if_pos hz]; exact Or.inl ⟨hz, rfl⟩
      · rw [if_neg hz]; exact Or.inr ⟨hz, Or.inl ⟨rfl, fun l _ _ => rfl⟩⟩
    · show (0 : Int) ≤ 0 ∧ (0 : Int) < 1024; omega
    · show bt 0 l = true ↔ (100 : Int) < 100 ∧ _
      rw [bt_0]
      exact ⟨fun z => (by cases z), fun z => by omega⟩
  | succ k ih =>
    intro hk
    rw [show ((k + 1 : Nat) : Int) = (k : Int) + 1 by omega, jmS_s (by omega), ljS_s (by omega)]
    exact JI_row hP ⟨by omega, by omega⟩ (ih (by omega))
theorem lj_eq (hP : PO m d) : ljC m d = jmB m d := by
  have hm := hP.1.1
  have hp := p2_b hm
  have h := JI_all hP (p2 m - 1).toNat (by omega)
  rw [show (((p2 m - 1).toNat : Nat) : Int) = p2 m - 1 by omega] at h
  obtain ⟨h1, h2, _, _⟩ := h (p2 m - 1) (by omega) (by omega)
  have e : ∀ l, jmX m d l = jmS m d (p2 m - 1) (10 * (p2 m - 1) + l) := by
    intro l
    unfold jmX
    have e1 : jmS m d (p2 m) = jmI m d (p2 m - 1) (jmS m d (p2 m - 1)) m := by
      have := jmS_s (m := m) (d := d) (k := p2 m - 1) (by omega)
      rw [show p2 m - 1 + 1 = p2 m by omega] at this
      exact this
    rw [e1]
    have key : ∀ c : Nat, (c : Int) ≤ m → jmI m d (p2 m - 1) (jmS m d (p2 m - 1)) c = jmS m d (p2 m - 1) := by
      intro c
      induction c with
      | zero => intro _; rfl
      | succ c ih =>
        intro hc
        rw [show ((c + 1 : Nat) : Int) = (c : Int) + 1 by omega, jmI_s (by omega), ih (by omega)]
        unfold jmC
        rw [if_neg]
        intro z
        have := may_nb z
        rw [p2_m1 hm ⟨by omega, by omega⟩] at this
        cases this
    have := key m.toNat (by omega)
    rw [show ((m.toNat : Nat) : Int) = m by omega] at this
    rw [this]
  unfold ljC jmB
  show (ljS m d (p2 m - 1)).1 (p2 m - 1) = mnZ m (jmX m d) (jmZ m)
  symm
  by_cases hz : m = 0
  · subst hz
    rcases h2 with ⟨_, z⟩ | ⟨z, _⟩
    · rw [z]; rfl
    · exact absurd (show p2 0 - 1 = 0 by decide) z
  · have hne : p2 m - 1 ≠ 0 := by
      have := p2_mono (a := 1) (b := m) (by omega) hm.2
      have : p2 1 = 2 := by decide
      omega
    have hzm : jmZ m = 100 := if_neg hz
    rw [hzm]
    have hw : wy m d (p2 m - 1) ≠ 0 := by
      have := (wy_low hP (cnt (p2 m - 1)).toNat (p2 m - 1) (by omega) (by omega) (by have := cnt_b (p2 m - 1); omega)).mpr ((low_iff hP.1 ⟨by omega, by omega⟩).mpr (fun a b _ _ b0 b1 _ _ => p2_m1 hm ⟨b0, b1⟩))
      exact this
    obtain ⟨l, l0, l1, hr⟩ := (wy_pre hm ⟨by omega, by omega⟩ hne).mp hw
    have hlt := ((h1 l l0 l1).1).mpr ⟨hr, Or.inl (less_lt hm ⟨by omega, by omega⟩ ⟨l0, l1⟩ hr.1)⟩
    rcases h2 with ⟨z, _⟩ | ⟨_, ⟨_, z⟩ | ⟨hA, ⟨l', l0', l1', he⟩, hmin⟩⟩
    · exact absurd z hne
    · have := z l l0 l1; omega
    · exact mnZ_eq hm.1 (by omega) (fun x x0 x1 => by rw [e x]; exact hmin x x0 x1) (Or.inr ⟨l', l0', l1', by rw [e l']; exact he⟩)
end JMP
