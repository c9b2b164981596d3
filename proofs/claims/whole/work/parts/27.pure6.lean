/-! ===== what the host does; laying all rows ===== -/
section DIV
variable {G : GG} {mi : MI} {R : Room} {Z : ZZ} {cs : Nat × Nat} {pc : Nat} {lc : LL} {r : List VV} {n : Nat} {K : KK} {M : MM}
theorem x_idivR {x y : Int} (hne : y ≠ 0) (hr0 : inR (x.tdiv y)) (hd : decode mi.2.1 pc = .ok (.idiv, 1)) (kk : MW G mi R Z cs (pc + 1) lc ((0, x.tdiv y) :: r) n K M) : MW G mi R Z cs pc lc ((0, y) :: (0, x) :: r) n K M := by
  intro p e s m args below meth c H locs ls cx hr hs hl hlo hso
  obtain ⟨hx, hb, hml, hown, hts, hlk, hret, hnm, hK, hbs⟩ := id cx
  have hy : inR y := (List.forall_mem_cons.mp hso).1
  have hx1 : inR x := (List.forall_mem_cons.mp (List.forall_mem_cons.mp hso).2).1
  have hso' := (List.forall_mem_cons.mp (List.forall_mem_cons.mp hso).2).2
  have k := kk p e s m args below meth c H locs ls cx hr hs hl hlo (List.forall_mem_cons.mpr ⟨hr0, hso'⟩)
  refine lv_idiv hx hb hd (i3_ne hy hne) ?_
  rw [List.map_cons, rv_i, Int32.ofInt_tdiv hx1.1 (Int.le_of_lt_add_one hx1.2) hy.1 (Int.le_of_lt_add_one hy.2)] at k
  exact k
end DIV
theorem div1000 {q : Int} (h : -100 ≤ q ∧ q ≤ 100) : inR ((1000 : Int).tdiv q) := by
  have key : ∀ k : Fin 201, -1000 ≤ (1000 : Int).tdiv ((k.val : Int) - 100) ∧ (1000 : Int).tdiv ((k.val : Int) - 100) ≤ 1000 := by decide +kernel
  have := key ⟨(q + 100).toNat, by omega⟩
  rw [show (((q + 100).toNat : Nat) : Int) - 100 = q by omega] at this
  exact ⟨by omega, by omega⟩
def fgOk (w q k : Int) : Bool := (decide (0 ≤ w) && decide (w ≤ 6)) && (decide (-100 ≤ q) && decide (q ≤ 100)) && (decide (-100 ≤ k) && decide (k ≤ 100))
def isSt (kd : Int) : Bool := decide (kd ≠ 0) && decide (kd ≠ 4)
def fgR (M : MM) (w q o s : Int) : Int :=
  if w = 0 then (if isOr M o then (if kOf (M 37 o) (mdl q 6) then M 37 o else -1) else -1)
  else if w = 1 then (if q < 0 then -1 else q)
  else if w = 2 then (if M 42 s = -1 then -1 else if M 42 s ≠ 1 then -1 else if 0 ≤ q ∧ q < M 43 s then M 44 (20 * s + q) else -1)
  else if w = 3 then (if M 42 s = -1 then -1 else if M 42 s ≠ 0 then -1 else if (0 ≤ q ∧ q ≤ 3) ∧ 1 + q ≤ M 43 s then sumZ q (fun k => M 44 (20 * s + (k + 1))) else -1)
  else if w = 4 then (if isOr M o then (if isSt (M 37 o) then M 37 o else -1) else 0)
  else if w = 5 then (if q = 0 then -1 else (1000 : Int).tdiv q)
  else (if zand q 1 = 0 then -1 else 1)
def fgS (M : MM) (w q o s : Int) : Int :=
  if w = 0 then (if isOr M o then (if kOf (M 37 o) (mdl q 6) then 0 else 11) else 10)
  else if w = 1 then (if q < 0 then 13 else 0)
  else if w = 2 then (if M 42 s = -1 then 10 else if M 42 s ≠ 1 then 11 else if 0 ≤ q ∧ q < M 43 s then 0 else 12)
  else if w = 3 then (if M 42 s = -1 then 10 else if M 42 s ≠ 0 then 11 else if (0 ≤ q ∧ q ≤ 3) ∧ 1 + q ≤ M 43 s then 0 else 12)
  else if w = 4 then (if isOr M o then (if isSt (M 37 o) then 0 else 14) else 0)
  else if w = 5 then (if q = 0 then 15 else 0)
  else (if zand q 1 = 0 then 10 else 0)
theorem mdl_in {x k : Int} (hk : 1 ≤ k ∧ k ≤ 8) : 0 ≤ mdl x k ∧ mdl x k < k := by
  unfold mdl
  have h1 := Int.tmod_lt_of_pos x (show 0 < k by omega)
  have h2 := Int.lt_tmod_of_pos x (show 0 < k by omega)
  exact ⟨Int.tmod_nonneg _ (by omega), Int.tmod_lt_of_pos _ (by omega)⟩
/-! laying all rows, by sets -/
def foldA {α : Type} (f : α → Int → α) (z : α) : Nat → α
  | 0 => z
  | k + 1 => f (foldA f z k) (k : Int)
def foldG {α : Type} (n : Int) (f : α → Int → α) (z : α) : α := foldA f z n.toNat
theorem foldG_0 {α : Type} (f : α → Int → α) (z : α) : foldG 0 f z = z := rfl
theorem foldG_s {α : Type} {c : Int} (h : 0 ≤ c) (f : α → Int → α) (z : α) : foldG (c + 1) f z = f (foldG c f z) c := by
  unfold foldG
  rw [show (c + 1).toNat = c.toNat + 1 by omega]
  show f (foldA f z c.toNat) ((c.toNat : Nat) : Int) = _
  rw [Int.toNat_of_nonneg h]
/-- the set with one thing more -/
def plus (s c : Int) : Int := zor s (zshl 1 c)
def wyC (d : Int → Int) (a b s : Int) (W : Int → Int) (c : Int) : Int → Int := fun t => if t = plus s c then wr (W t + (if may d a b s c then W s else 0)) else W t
/-- what the things that may follow the set s, below c, add -/
def wyI (m : Int) (d : Int → Int) (a b s : Int) (W : Int → Int) (c : Int) : Int → Int := if 0 < W s then foldG c (wyC d a b s) W else W
def wy0 : Int → Int := fun t => if t = 0 then 1 else 0
def wyS (m : Int) (d : Int → Int) (a b k : Int) : Int → Int := foldG k (fun W s => wyI m d a b s W m) wy0
def lyN (m : Int) (d : Int → Int) (a b : Int) : Nat → Int → Int
  | 0, _ => 0
  | k + 1, s => foldZ m (fun acc c => wr (acc + (if may d a b s c then lyN m d a b k (plus s c) else 0))) (B (decide (s = p2 m - 1)))
def lyF (m : Int) (d : Int → Int) (a b s : Int) : Int := lyN m d a b ((p2 m - 1 - s).toNat + 1) s
theorem plus_in {m s c : Int} (hm : 0 ≤ m ∧ m ≤ 10) (hs : 0 ≤ s ∧ s < p2 m) (hc : 0 ≤ c ∧ c < m) : 0 ≤ plus s c ∧ plus s c < p2 m := zor_p2 hm hs (shl_p2 hc hm.2)
theorem bt_plus {s c : Int} (hs : nn s) (hc : 0 ≤ c ∧ c < 31) {a : Int} (ha : 0 ≤ a) : bt (plus s c) a = (bt s a || decide (c = a)) := by
  unfold plus
  rw [bt_zor hs (nn_zshl1 hc), bt_zshl1 hc ha]
theorem plus_gt {s c : Int} (hs : nn s) (hc : 0 ≤ c ∧ c < 31) (h : bt s c = false) : s < plus s c := by
  have hle : s.toNat ≤ (s.toNat ||| (zshl 1 c).toNat) := Nat.left_le_or
  unfold plus
  have hne : zor s (zshl 1 c) ≠ s := by
    intro e
    have := bt_zor hs (nn_zshl1 hc) c
    rw [e, h, bt_zshl1 hc hc.1] at this
    simp at this
  rw [zor_nat hs (nn_zshl1 hc)] at hne ⊢
  have := hs.1
  omega
theorem may_nb {d : Int → Int} {a b s c : Int} (h : may d a b s c = true) : bt s c = false := by
  unfold may at h
  simp only [Bool.and_eq_true, Bool.not_eq_true'] at h
  exact h.1.1
theorem foldN_congr {f g : Int → Int → Int} {z : Int} : ∀ k : Nat, (∀ x c : Int, 0 ≤ c → c < k → f x c = g x c) → foldN f z k = foldN g z k := by
  intro k
  induction k with
  | zero => intro _; rfl
  | succ k ih =>
    intro h
    show f (foldN f z k) k = g (foldN g z k) k
    rw [ih (fun x c h0 h1 => h x c h0 (by omega)), h _ _ (by omega) (by omega)]
theorem foldZ_congr {n : Int} {f g : Int → Int → Int} {z : Int} (h : ∀ x c : Int, 0 ≤ c → c < n → f x c = g x c) : foldZ n f z = foldZ n g z := foldN_congr _ (fun x c h0 h1 => h x c h0 (by omega))
theorem lyN_st {m : Int} {d : Int → Int} {a b : Int} (hm : 0 ≤ m ∧ m ≤ 10) : ∀ (k k' : Nat) (s : Int), 0 ≤ s ∧ s < p2 m → (p2 m - 1 - s).toNat < k → (p2 m - 1 - s).toNat < k' → lyN m d a b k s = lyN m d a b k' s := by
  intro k
  induction k with
  | zero => intro k' s hs h; omega
  | succ k ih =>
    intro k' s hs h h'
    have hp := p2_b hm
    cases k' with
    | zero => omega
    | succ k' =>
      show foldZ m _ _ = foldZ m _ _
      refine foldZ_congr (fun x c h0 h1 => ?_)
      by_cases hmay : may d a b s c = true
      · rw [if_pos hmay, if_pos hmay]
        have h2 := plus_gt (s := s) (c := c) ⟨hs.1, by omega⟩ ⟨h0, by omega⟩ (may_nb hmay)
        have h3 := plus_in hm hs ⟨h0, h1⟩
        rw [ih k' (plus s c) h3 (by omega) (by omega)]
      · rw [if_neg hmay, if_neg hmay]
theorem lyF_eq {m : Int} {d : Int → Int} {a b s : Int} (hm : 0 ≤ m ∧ m ≤ 10) (hs : 0 ≤ s ∧ s < p2 m) : lyF m d a b s = foldZ m (fun acc c => wr (acc + (if may d a b s c then lyF m d a b (plus s c) else 0))) (B (decide (s = p2 m - 1))) := by
  have hp := p2_b hm
  show foldZ m _ _ = foldZ m _ _
  refine foldZ_congr (fun x c h0 h1 => ?_)
  by_cases hmay : may d a b s c = true
  · rw [if_pos hmay, if_pos hmay]
    have h2 := plus_gt (s := s) (c := c) ⟨hs.1, by omega⟩ ⟨h0, by omega⟩ (may_nb hmay)
    have h3 := plus_in hm hs ⟨h0, h1⟩
    unfold lyF
    rw [lyN_st hm _ ((p2 m - 1 - plus s c).toNat + 1) (plus s c) h3 (by omega) (by omega)]
  · rw [if_neg hmay, if_neg hmay]
theorem st2_o (M : MM) {a k v j : Int} (h : j ≠ k) : st2 M a k v a j = M a j := by unfold st2; rw [if_pos rfl, if_neg h]
theorem wyI_pos {m : Int} {d : Int → Int} {a b s : Int} {W : Int → Int} {c : Int} (h : 0 < W s) : wyI m d a b s W c = foldG c (wyC d a b s) W := if_pos h
theorem wyI_neg {m : Int} {d : Int → Int} {a b s : Int} {W : Int → Int} {c : Int} (h : ¬ 0 < W s) : wyI m d a b s W c = W := if_neg h
theorem wr_in {x : Int} (h : inR x) : wr x = x := i3_to h
theorem wy_self {d : Int → Int} {a b s : Int} {W : Int → Int} (hs : nn s) (hR : inR (W s)) : ∀ k : Nat, (k : Int) ≤ 31 → foldG (k : Int) (wyC d a b s) W s = W s := by
  intro k
  induction k with
  | zero => intro _; rfl
  | succ k ih =>
    intro hk
    rw [show ((k + 1 : Nat) : Int) = (k : Int) + 1 by omega, foldG_s (by omega)]
    have ih := ih (by omega)
    show (if s = plus s k then _ else _) = _
    split
    · rename_i he
      have hb : bt s k = true := by
        cases hb : bt s k with
        | true => rfl
        | false => have := plus_gt hs ⟨by omega, by omega⟩ hb; omega
      have hm : ¬ may d a b s k = true := fun q => by rw [may_nb q] at hb; cases hb
      rw [if_neg hm, ih, Int.add_zero, wr_in hR]
    · exact ih
theorem wyI_self {m : Int} {d : Int → Int} {a b s : Int} {W : Int → Int} {c : Int} (hs : nn s) (hR : inR (W s)) (hc : 0 ≤ c ∧ c ≤ 31) : wyI m d a b s W c s = W s := by
  by_cases h : 0 < W s
  · rw [wyI_pos h]
    have := wy_self (d := d) (a := a) (b := b) hs hR c.toNat (by omega)
    rw [show ((c.toNat : Nat) : Int) = c by omega] at this
    exact this
  · rw [wyI_neg h]
theorem wyI_s {m : Int} {d : Int → Int} {a b s : Int} {W : Int → Int} {c : Int} (h : 0 < W s) (hc : 0 ≤ c) (t : Int) : wyI m d a b s W (c + 1) t = if t = plus s c then wr (wyI m d a b s W c t + (if may d a b s c then wyI m d a b s W c s else 0)) else wyI m d a b s W c t := by
  rw [wyI_pos h, wyI_pos h, foldG_s hc]
  rfl
theorem wyS_s {m : Int} {d : Int → Int} {a b k : Int} (hk : 0 ≤ k) : wyS m d a b (k + 1) = wyI m d a b k (wyS m d a b k) m := foldG_s hk _ _
