/-! ===== marks ===== -/
def so (p : Int) (M M1 : MM) : Prop := ∀ x, x < p ∨ p + 2 < x → M1 x = M x
theorem so.rf {p : Int} {M : MM} : so p M M := fun _ _ => rfl
theorem so.tr {p : Int} {M M1 M2 : MM} (h1 : so p M M1) (h2 : so p M1 M2) : so p M M2 := fun x hx => (h2 x hx).trans (h1 x hx)
theorem so.wf {p : Int} {K : KK} {M M1 : MM} (hp : 55 ≤ p) (h : WF K M) (hs : so p M M1) : WF K M1 := h.of (fun q hq => by have := mfL_lt q hq; rw [hs q.1 (Or.inl (by omega))])
theorem OB.so {K : KK} {M M1 : MM} {p q : Int} {ci : Nat} {nm m : Int} {d : Int → Int} (h : OB K M q ci nm m d) (hp : 55 ≤ p) (hq : q + 2 < p ∨ p + 2 < q) (hs : so p M M1) : OB K M1 q ci nm m d := by
  have hg := h.ge
  exact h.of (hs.wf hp h.wf) (hs _ (by omega)) (hs _ (by omega)) (hs _ (by omega))
def mrk (d : Int → Int) (a b : Int) : Int → Int := if rel d a b then d else up d b (plus (d b) a)
theorem so_mark {M : MM} {p a b v w x : Int} : so p M (st2 (st2 (st2 M (p + 1) b v) (p + 2) a w) p 4 x) := fun y hy => by
  rw [st2_ne _ (by omega), st2_ne _ (by omega), st2_ne _ (by omega)]
theorem prs_b {m : Int} {d : Int → Int} (hm : 0 ≤ m ∧ m ≤ 10) : 0 ≤ prs m d ∧ prs m d ≤ 100 := by
  have := sumZ_b (f := fun a => cnt (d a)) (L := 10) hm.1 (fun c _ _ => cnt_b (d c))
  unfold prs
  omega
theorem rel_up {m : Int} {d : Int → Int} (h : OK m d) {a b : Int} (ha : 0 ≤ a ∧ a < m) (hb : 0 ≤ b ∧ b < m) {x y : Int} (hx : 0 ≤ x) : rel (up d b (plus (d b) a)) x y = (rel d x y || (decide (x = a) && decide (y = b))) := by
  have hm := h.1
  unfold rel up
  by_cases hy : y = b
  · rw [if_pos hy, bt_plus (h.nn ⟨hb.1, by omega⟩) ⟨ha.1, by omega⟩ hx, hy, decide_eq_true rfl, Bool.and_true, show decide (a = x) = decide (x = a) from by rw [decide_eq_decide]; exact eq_comm]
  · rw [if_neg hy, decide_eq_false hy]; simp
theorem rel_mrk {m : Int} {d : Int → Int} (h : OK m d) {a b : Int} (ha : 0 ≤ a ∧ a < m) (hb : 0 ≤ b ∧ b < m) {x y : Int} (hx : 0 ≤ x) : rel (mrk d a b) x y = (rel d x y || (decide (x = a) && decide (y = b))) := by
  unfold mrk
  split
  · rename_i hr
    by_cases hxa : x = a ∧ y = b
    · rw [hxa.1, hxa.2, hr]; rfl
    · have : (decide (x = a) && decide (y = b)) = false := by
        rw [Bool.eq_false_iff, ne_eq, Bool.and_eq_true, decide_eq_true_eq, decide_eq_true_eq]; exact hxa
      rw [this, Bool.or_false]
  · exact rel_up h ha hb hx
theorem OB.mark {K : KK} {M : MM} {p : Int} {ci : Nat} {nm m : Int} {d : Int → Int} (h : OB K M p ci nm m d) {a b : Int} (ha : 0 ≤ a ∧ a < m) (hb : 0 ≤ b ∧ b < m) (hn : rel d a b = false) : OB K (st2 (st2 (st2 M (p + 1) b (plus (d b) a)) (p + 2) a (zor (upS m d a) (zshl 1 b))) p 4 (prs m d + 1)) p ci nm m (mrk d a b) := by
  have hm := h.sz
  have hg := h.ge
  have hd1 := h.ok.2.1 b hb.1 (by omega)
  have hd2 := h.ok.2.2 b hb.1 (by omega)
  have hpl := plus_in hm ⟨hd1.1, hd2⟩ ha
  have hp2 := p2_b hm
  have e : mrk d a b = up d b (plus (d b) a) := if_neg (by rw [hn]; decide)
  rw [e]
  have n1 : ∀ x : Int, x ≠ p → x ≠ p + 1 → x ≠ p + 2 → st2 (st2 (st2 M (p + 1) b (plus (d b) a)) (p + 2) a (zor (upS m d a) (zshl 1 b))) p 4 (prs m d + 1) x = M x := fun x h1 h2 h3 => by rw [st2_ne _ h1, st2_ne _ h3, st2_ne _ h2]
  have hf : ∀ k : Int, k ≠ 4 → st2 (st2 (st2 M (p + 1) b (plus (d b) a)) (p + 2) a (zor (upS m d a) (zshl 1 b))) p 4 (prs m d + 1) p k = M p k := fun k hk => by
    rw [st2_o _ hk, st2_ne _ (show p ≠ p + 2 by omega), st2_ne _ (show p ≠ p + 1 by omega)]
  have hpr : prs m (up d b (plus (d b) a)) = prs m d + 1 := by
    unfold prs
    refine sumZ_one (c := b) (x := 1) hb ?_ (fun e _ he => by rw [show up d b (plus (d b) a) e = d e from if_neg he])
    rw [show up d b (plus (d b) a) b = plus (d b) a from if_pos rfl]
    exact cnt_plus (h.ok.nn ⟨hb.1, by omega⟩) ⟨ha.1, by omega⟩ hn
  refine ⟨WF.dyn (WF.dyn (WF.dyn h.wf (by omega)) (by omega)) hg, h.2.1, hg, ⟨by rw [hf 0 (by decide)]; exact h.num, by rw [hf 1 (by decide)]; exact h.n, by rw [hf 2 (by decide)]; exact h.dn, by rw [hf 3 (by decide)]; exact h.upp, by rw [st2_self, hpr]⟩, fun y y0 y1 => ⟨?_, ?_⟩, ⟨hm, fun y y0 y1 => ?_, fun y y0 y1 => ?_⟩⟩
  · rw [st2_ne _ (show p + 1 ≠ p by omega), st2_ne _ (show p + 1 ≠ p + 2 by omega), st2_up]
    unfold up
    split
    · rfl
    · exact h.dat ⟨y0, y1⟩
  · rw [st2_ne _ (show p + 2 ≠ p by omega), st2_up, st2_ne _ (show p + 2 ≠ p + 1 by omega)]
    show (if y = a then _ else _) = mk m (fun z => rel (up d b (plus (d b) a)) y z)
    rw [mk_congr (Q := fun z => rel d y z || (decide (y = a) && decide (z = b))) (fun z _ _ => rel_up h.ok ha hb y0)]
    by_cases hy : y = a
    · rw [if_pos hy, hy]
      show zor (mk m (fun z => rel d a z)) (zshl 1 b) = _
      rw [mk_or hm.2 hb]
      exact mk_congr (fun z _ _ => by rw [decide_eq_true rfl, Bool.true_and])
    · rw [if_neg hy, h.uat ⟨y0, y1⟩]
      exact mk_congr (fun z _ _ => by rw [decide_eq_false hy]; simp)
  · unfold up; split
    · exact ⟨hpl.1, by omega⟩
    · exact h.ok.2.1 y y0 y1
  · unfold up; split
    · exact hpl.2
    · exact h.ok.2.2 y y0 y1
/-- sets by what they hold -/
theorem OB.ext {K : KK} {M : MM} {p : Int} {ci : Nat} {nm m : Int} {d f : Int → Int} (h : OB K M p ci nm m d) (he : ∀ y, 0 ≤ y → y < 10 → d y = f y) : OB K M p ci nm m f := by
  have hm := h.sz
  have e1 : prs m f = prs m d := sumZ_congr (fun c h0 h1 => by rw [he c h0 (by omega)])
  have e2 : ∀ a, upS m f a = upS m d a := fun a => mk_congr (fun b h0 h1 => by unfold rel; rw [he b h0 (by omega)])
  refine ⟨h.wf, h.2.1, h.ge, ⟨h.num, h.n, h.dn, h.upp, by rw [e1]; exact h.pc⟩, fun y y0 y1 => ⟨by rw [← he y y0 y1]; exact h.dat ⟨y0, y1⟩, by rw [e2]; exact h.uat ⟨y0, y1⟩⟩, ⟨hm, fun y y0 y1 => by rw [← he y y0 y1]; exact h.ok.2.1 y y0 y1, fun y y0 y1 => by rw [← he y y0 y1]; exact h.ok.2.2 y y0 y1⟩⟩
theorem d_ext {m : Int} {d f : Int → Int} (h : OK m d) (hf : OK m f) (he : ∀ x y, 0 ≤ x → x < m → 0 ≤ y → y < m → rel d x y = rel f x y) {y : Int} (hy : 0 ≤ y ∧ y < m) : d y = f y := by
  have hm := h.1
  have h1 := h.2.1 y hy.1 (by omega)
  have h2 := h.2.2 y hy.1 (by omega)
  have f1 := hf.2.1 y hy.1 (by omega)
  have f2 := hf.2.2 y hy.1 (by omega)
  refine bt_ext (nn10 h1) (nn10 f1) (fun a h0 h3 => ?_)
  by_cases ha : a < m
  · exact he a y h0 ha hy.1 hy.2
  · rw [bt_hi hm ⟨h1.1, h2⟩ (by omega), bt_hi hm ⟨f1.1, f2⟩ (by omega)]
theorem mrk_o {d : Int → Int} {a b y : Int} (h : y ≠ b) : mrk d a b y = d y := by
  unfold mrk
  split
  · rfl
  · exact if_neg h
/-- told: a below b -/
def tlD (m : Int) (d : Int → Int) (a b : Int) : Int → Int := fun y => if y < m ∧ (y = b ∨ rel d b y = true) then zor (d y) (zor (d a) (zshl 1 a)) else d y
theorem tlD_ok {m : Int} {d : Int → Int} (h : OK m d) {a b : Int} (ha : 0 ≤ a ∧ a < m) : OK m (tlD m d a b) := by
  have hm := h.1
  have hp2 := p2_b hm
  refine ⟨hm, fun y y0 y1 => ?_, fun y y0 y1 => ?_⟩
  · unfold tlD; split
    · exact zor10 (h.2.1 y y0 y1) (zor10 (h.2.1 a ha.1 (by omega)) (shl10 ⟨ha.1, by omega⟩))
    · exact h.2.1 y y0 y1
  · unfold tlD; split
    · exact (zor_p2 hm ⟨(h.2.1 y y0 y1).1, h.2.2 y y0 y1⟩ (zor_p2 hm ⟨(h.2.1 a ha.1 (by omega)).1, h.2.2 a ha.1 (by omega)⟩ (shl_p2 ha hm.2))).2
    · exact h.2.2 y y0 y1
theorem rel_tlD {m : Int} {d : Int → Int} (h : OK m d) {a b : Int} (ha : 0 ≤ a ∧ a < m) {x y : Int} (hx : 0 ≤ x) (hy : 0 ≤ y ∧ y < m) : rel (tlD m d a b) x y = (rel d x y || ((rel d x a || decide (x = a)) && (decide (y = b) || rel d b y))) := by
  have hm := h.1
  have n1 := h.nn (b := y) ⟨hy.1, by omega⟩
  have n2 := h.nn (b := a) ⟨ha.1, by omega⟩
  have n3 : nn (zshl 1 a) := nn_zshl1 ⟨ha.1, by omega⟩
  show bt (tlD m d a b y) x = _
  unfold tlD
  by_cases hq : y = b ∨ rel d b y = true
  · rw [if_pos ⟨hy.2, hq⟩, bt_zor n1 (nn_zor n2 n3), bt_zor n2 n3, bt_zshl1 ⟨ha.1, by omega⟩ hx, show (decide (y = b) || rel d b y) = true from by simpa using hq, Bool.and_true, show decide (a = x) = decide (x = a) from by rw [decide_eq_decide]; exact eq_comm]
    rfl
  · rw [if_neg (fun z => hq z.2), show (decide (y = b) || rel d b y) = false from by simpa using hq, Bool.and_false, Bool.or_false]
    rfl
