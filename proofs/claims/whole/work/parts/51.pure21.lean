/-! ===== the class's words ===== -/
theorem mk_congr {n : Int} {P Q : Int → Bool} (h : ∀ c, 0 ≤ c → c < n → P c = Q c) : mk n P = mk n Q := foldZ_congr (fun x c h0 h1 => by rw [h c h0 h1])
theorem mk_or {m : Int} (hm : m ≤ 10) {P : Int → Bool} {c : Int} (hc : 0 ≤ c ∧ c < m) : zor (mk m P) (zshl 1 c) = mk m (fun b => P b || decide (b = c)) := by
  refine bt_ext (nn_zor (mk_nn (by omega) _) (nn_zshl1 ⟨hc.1, by omega⟩)) (mk_nn (by omega) _) (fun a h0 h1 => ?_)
  rw [bt_zor (mk_nn (by omega) _) (nn_zshl1 ⟨hc.1, by omega⟩), bt_mk (by omega) _ h0, bt_mk (by omega) _ h0, bt_zshl1 ⟨hc.1, by omega⟩ h0]
  by_cases ha : c = a
  · rw [decide_eq_true ha, decide_eq_true (show a = c by omega), decide_eq_true (show a < m by omega)]; simp
  · rw [decide_eq_false ha, decide_eq_false (show ¬ a = c by omega)]; simp
theorem mk_none (m : Int) : mk m (fun _ => false) = 0 := by
  unfold mk
  exact foldZ_P (fun x => x = 0) rfl (fun x c h _ _ => by simpa using h)
theorem mk_one {m : Int} (hm : m ≤ 10) {c : Int} (hc : 0 ≤ c ∧ c < m) : mk m (fun b => decide (c = b)) = zshl 1 c := by
  refine bt_ext (mk_nn (by omega) _) (nn_zshl1 ⟨hc.1, by omega⟩) (fun a h0 h1 => ?_)
  rw [bt_mk (by omega) _ h0, bt_zshl1 ⟨hc.1, by omega⟩ h0]
  by_cases ha : c = a
  · rw [decide_eq_true ha, decide_eq_true (show a < m by omega)]; rfl
  · rw [decide_eq_false ha, Bool.and_false]
/-- the least of a set; what is left behind k steps -/
def lst (m : Int) (d : Int → Int) (s : Int) : Int := mk m (fun t => bt s t && dis (d t) s)
def lf (m : Int) (d : Int → Int) (k : Int) : Int := foldZ k (fun s _ => zand s (zxor (lst m d s) (-1))) (p2 m - 1)
theorem lf_s {m : Int} {d : Int → Int} {k : Int} (h : 0 ≤ k) : lf m d (k + 1) = zand (lf m d k) (zxor (lst m d (lf m d k)) (-1)) := foldZ_s h _ _
theorem lst_b {m : Int} {d : Int → Int} {s : Int} (hm : 0 ≤ m ∧ m ≤ 10) : 0 ≤ lst m d s ∧ lst m d s < 1024 := mk_lt hm _
theorem zdif_le {x y : Int} (hx : 0 ≤ x ∧ x < 1024) (hy : 0 ≤ y ∧ y < 1024) : 0 ≤ zand x (zxor y (-1)) ∧ zand x (zxor y (-1)) < 1024 := by
  have h := nn_zdif (nn10 hx) (nn10 hy)
  refine ⟨h.1, lt10 h (fun a h0 h1 hb => ?_)⟩
  rw [bt_zdif (nn10 hx) (nn10 hy), Bool.and_eq_true] at hb
  have := bt10 hx hb.1
  omega
theorem lf_b {m : Int} {d : Int → Int} (hm : 0 ≤ m ∧ m ≤ 10) : ∀ k : Nat, 0 ≤ lf m d k ∧ lf m d k < 1024 := by
  intro k
  induction k with
  | zero => have := p2_b hm; show 0 ≤ p2 m - 1 ∧ p2 m - 1 < 1024; omega
  | succ k ih =>
    rw [show ((k + 1 : Nat) : Int) = (k : Int) + 1 by omega, lf_s (by omega)]
    exact zdif_le ih (lst_b hm)
def layC (m : Int) (d : Int → Int) (t : Int) : Int := rs m (fun k => if bt (lst m d (lf m d k)) t then k else -1) 0
def hgtC (m : Int) (d : Int → Int) : Int := if rs m (fun k => if lf m d k = 0 then k else -1) 0 = -1 then m else rs m (fun k => if lf m d k = 0 then k else -1) 0
theorem zand_ac (s x y : Int) : zand (zand s x) y = zand (zand x y) s := by
  unfold zand
  rw [Int32.ofInt_toInt, Int32.ofInt_toInt, Int32.and_assoc, Int32.and_comm]
theorem wstep_0 {m : Int} {d : Int → Int} : wstep m d 0 0 = 0 := by
  unfold wstep
  split <;> rfl
theorem fold1_0 {m : Int} {d : Int → Int} : foldZ 1 (wstep m d) 0 = 0 := wstep_0
/-- over all that is NEXT over a set -/
def nov (m : Int) (d : Int → Int) (s : Int) : Int := mk m (fun b => exB m (fun a => bt s a && nxt m d a b))
def rch (m : Int) (d : Int → Int) (x k : Int) : Int := mk m (fun y => wkN m d k.toNat x y)
theorem exB_congr {n : Int} {P Q : Int → Bool} (h : ∀ c, 0 ≤ c → c < n → P c = Q c) : exB n P = exB n Q := by
  unfold exB
  rw [allB_congr (fun c h0 h1 => by rw [h c h0 h1])]
theorem exB_s {n : Int} (hn : 0 ≤ n) (P : Int → Bool) : exB (n + 1) P = (exB n P || P n) := by
  unfold exB
  rw [allB_s hn, Bool.not_and, Bool.not_not]
theorem exB_0 (P : Int → Bool) : exB 0 P = false := rfl
theorem rch_b {m : Int} {d : Int → Int} {x k : Int} (hm : 0 ≤ m ∧ m ≤ 10) : 0 ≤ rch m d x k ∧ rch m d x k < 1024 := mk_lt hm _
theorem rch_0 {m : Int} {d : Int → Int} {x : Int} (hm : m ≤ 10) (hx : 0 ≤ x ∧ x < m) : zshl 1 x = rch m d x 0 := (mk_one hm hx).symm
theorem rch_s {m : Int} {d : Int → Int} {x k : Int} (hm : m ≤ 10) (hx : 0 ≤ x ∧ x < m) (hk : 0 ≤ k) : nov m d (rch m d x k) = rch m d x (k + 1) := by
  unfold nov
  show _ = mk m (fun y => wkN m d (k + 1).toNat x y)
  refine mk_congr (fun b h0 h1 => ?_)
  rw [Bool.eq_iff_iff, exB_iff, show (k + 1).toNat = k.toNat + 1 by omega, wk_r hx]
  constructor
  · rintro ⟨c, g0, g1, g2⟩
    rw [Bool.and_eq_true, rch, bt_mk (by omega) _ g0, Bool.and_eq_true] at g2
    exact ⟨c, g0, g1, g2.1.2, g2.2, h0, h1⟩
  · rintro ⟨c, g0, g1, g2, g3, _⟩
    refine ⟨c, g0, g1, ?_⟩
    rw [rch, bt_mk (by omega) _ g0, decide_eq_true g1, g2, g3]
    rfl
theorem bt_rch {m : Int} {d : Int → Int} {x k y : Int} (hm : m ≤ 10) (hy : 0 ≤ y ∧ y < m) : bt (rch m d x k) y = wkN m d k.toNat x y := by
  unfold rch
  rw [bt_mk (by omega) _ hy.1, decide_eq_true hy.2, Bool.true_and]
def fstC (m : Int) (d : Int → Int) (x y l : Int) : Int := rs m (fun t => if nxt m d x t && decide (dst m d t y = l) then t else -1) 0
/-- bounds by sets -/
def sid (m : Int) (d : Int → Int) (w a : Int) : Int := if w = 0 then zor (upS m d a) (zshl 1 a) else zor (d a) (zshl 1 a)
theorem sid_b {m : Int} {d : Int → Int} (h : OK m d) {w a : Int} (ha : 0 ≤ a ∧ a < m) : 0 ≤ sid m d w a ∧ sid m d w a < 1024 := by
  have hm := h.1
  unfold sid
  split
  · exact zor10 (mk_lt hm _) (shl10 ⟨ha.1, by omega⟩)
  · exact zor10 (h.2.1 a ha.1 (by omega)) (shl10 ⟨ha.1, by omega⟩)
theorem bt_sid {m : Int} {d : Int → Int} (h : OK m d) {w a c : Int} (ha : 0 ≤ a ∧ a < m) (hc : 0 ≤ c) : bt (sid m d w a) c = (decide (c < m) && onW d w a c) := by
  have hm := h.1
  unfold sid onW
  by_cases hw : w = 0
  · rw [if_pos hw, bt_zor (x := upS m d a) (mk_nn (by omega) _) (nn_zshl1 ⟨ha.1, by omega⟩), bt_zshl1 ⟨ha.1, by omega⟩ hc, bt_upS hm.2 hc]
    by_cases hac : a = c
    · rw [decide_eq_true hac, decide_eq_true (show c < m by omega)]; simp
    · rw [decide_eq_false hac, if_pos hw]; simp
  · rw [if_neg hw, bt_zor (h.nn ⟨ha.1, by omega⟩) (nn_zshl1 ⟨ha.1, by omega⟩), bt_zshl1 ⟨ha.1, by omega⟩ hc]
    by_cases hac : a = c
    · rw [decide_eq_true hac, decide_eq_true (show c < m by omega)]; simp
    · rw [decide_eq_false hac, if_neg hw]
      cases hr : bt (d a) c with
      | false => show (false || false) = (decide (c < m) && (false || rel d c a)); unfold rel; rw [hr]; simp
      | true =>
        have : c < m := rel_lt h ⟨ha.1, by omega⟩ hr
        show (true || false) = (decide (c < m) && (false || rel d c a)); unfold rel; rw [hr, decide_eq_true this]; rfl
theorem isBd_sid {m : Int} {d : Int → Int} (h : OK m d) {w a b c : Int} (ha : 0 ≤ a ∧ a < m) (hb : 0 ≤ b ∧ b < m) (hc : 0 ≤ c ∧ c < m) : isBd m d w a b c = (bt (zand (sid m d w a) (sid m d w b)) c && sub (zand (sid m d w a) (sid m d w b)) (sid m d w c)) := by
  have hna := nn10 (sid_b (w := w) h ha)
  have hnb := nn10 (sid_b (w := w) h hb)
  have hnc := nn10 (sid_b (w := w) h hc)
  unfold isBd
  rw [bt_zand hna hnb, bt_sid h ha hc.1, bt_sid h hb hc.1, decide_eq_true hc.2, Bool.true_and, Bool.true_and]
  congr 1
  rw [Bool.eq_iff_iff, allB_iff, sub_iff (nn_zand hna hnb) hnc]
  constructor
  · intro g e h0 h1 he
    rw [bt_zand hna hnb, Bool.and_eq_true, bt_sid h ha h0, bt_sid h hb h0, Bool.and_eq_true, Bool.and_eq_true, decide_eq_true_eq] at he
    rw [bt_sid h hc h0, decide_eq_true he.1.1, Bool.true_and]
    by_cases hec : e = c
    · unfold onW; rw [decide_eq_true hec.symm]; rfl
    · have := g e h0 he.1.1
      rw [he.1.2, he.2.2, decide_eq_true hec] at this
      simpa using this
  · intro g e h0 h1
    cases hq : (decide (e ≠ c) && onW d w a e && onW d w b e) with
    | false => rfl
    | true =>
      rw [Bool.and_eq_true, Bool.and_eq_true] at hq
      have := g e h0 (by have := h.1; omega) (by rw [bt_zand hna hnb, bt_sid h ha h0, bt_sid h hb h0, hq.1.2, hq.2, decide_eq_true h1]; rfl)
      rw [bt_sid h hc h0, decide_eq_true h1, Bool.true_and] at this
      rw [this]; rfl
/-- bent, by its ends -/
def fbe (m : Int) (d : Int → Int) (a b : Int) : Int := rs m (fun c => rs m (fun e => if (rel d a c && rel d b c && (rel d b e && !rel d a e)) && apr d c e && apr d a e then 10 * c + e else -1) 0) 0
def fbV (m : Int) (d : Int → Int) (a b : Int) : Int := if apr d a b then fbe m d a b else -1
def bentC (m : Int) (d : Int → Int) : Int := rs m (fun a => rs m (fun b => if fbV m d a b = -1 then -1 else 1000 * a + 100 * b + fbV m d a b) 0) 0
theorem fbe_b {m : Int} {d : Int → Int} (hm : 0 ≤ m ∧ m ≤ 10) (a b : Int) : -1 ≤ fbe m d a b ∧ fbe m d a b < 100 := by
  unfold fbe
  have key : ∀ (k : Nat) (v : Int) (f : Int → Int), (m - v).toNat = k → 0 ≤ v → (∀ c, 0 ≤ c → c < m → -1 ≤ f c ∧ f c < 100) → -1 ≤ rs m f v ∧ rs m f v < 100 := by
    intro k
    induction k with
    | zero => intro v f hk h0 _; rw [rs_e (by omega)]; omega
    | succ k ih =>
      intro v f hk h0 h
      rw [rs_s (by omega)]
      unfold oe
      split
      · exact ih (v + 1) f (by omega) (by omega) h
      · exact h v h0 (by omega)
  refine key _ 0 _ rfl (by omega) (fun c h0 h1 => key _ 0 _ rfl (by omega) (fun e g0 g1 => ?_))
  have key2 : ∀ (X : Bool) (y : Int), -1 ≤ y → y < 100 → -1 ≤ (if X then y else -1) ∧ (if X then y else -1) < 100 := by
    intro X y h1 h2
    cases X
    · show -1 ≤ (-1 : Int) ∧ (-1 : Int) < 100; omega
    · exact ⟨h1, h2⟩
  exact key2 _ _ (by omega) (by omega)
