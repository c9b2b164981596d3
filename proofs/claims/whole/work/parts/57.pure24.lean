/-! ===== the class: fewest jumps, bounds, inverses ===== -/
theorem sjF_b {m : Int} {d : Int → Int} {s t : Int} {q : XX × XX} (hs : 0 ≤ s ∧ s < p2 m) (h : sjB m q) : 0 ≤ sjF d s q t ∧ sjF d s q t ≤ 11 := by
  have h1 := (h s hs.1 hs.2).1
  have h2 := B_01 (decide (s ≠ 0) && dis (q.2 s) (d t))
  unfold sjF
  omega
theorem sjC_B {m : Int} {d : Int → Int} {s t : Int} {q : XX × XX} (hm : 0 ≤ m ∧ m ≤ 10) (hs : 0 ≤ s ∧ s < p2 m) (ht : 0 ≤ t ∧ t < m) (h : sjB m q) : sjB m (sjC d s q t) := by
  have hb := sjF_b (d := d) (t := t) hs h
  have hpl := plus_in hm hs ht
  have h2 := h _ hpl.1 hpl.2
  have hsh := shl10 (a := t) ⟨ht.1, by omega⟩
  intro u h0 h1
  have hu := h u h0 h1
  unfold sjC
  split
  · split
    · rename_i hlt
      show (0 ≤ (if u = plus s t then _ else _) ∧ (if u = plus s t then _ else _) ≤ 10) ∧ (0 ≤ (if u = plus s t then _ else _) ∧ (if u = plus s t then _ else _) < 1024)
      by_cases hq : u = plus s t
      · rw [if_pos hq, if_pos hq]
        exact ⟨by omega, zor10 ⟨by omega, by omega⟩ hsh⟩
      · rw [if_neg hq, if_neg hq]; exact hu
    · split
      · show (0 ≤ q.1 u ∧ q.1 u ≤ 10) ∧ (0 ≤ (if u = plus s t then _ else _) ∧ (if u = plus s t then _ else _) < 1024)
        by_cases hq : u = plus s t
        · rw [if_pos hq]; exact ⟨hu.1, zor10 h2.2 hsh⟩
        · rw [if_neg hq]; exact hu
      · exact hu
  · exact hu
theorem sjG_B {m : Int} {d : Int → Int} {s : Int} {q : XX × XX} (hm : 0 ≤ m ∧ m ≤ 10) (hs : 0 ≤ s ∧ s < p2 m) (h : sjB m q) : ∀ k : Nat, (k : Int) ≤ m → sjB m (foldG (k : Int) (sjC d s) q) := by
  intro k
  induction k with
  | zero => intro _; exact h
  | succ k ih =>
    intro hk
    rw [show ((k + 1 : Nat) : Int) = (k : Int) + 1 by omega, foldG_s (by omega)]
    exact sjC_B hm hs ⟨by omega, by omega⟩ (ih (by omega))
theorem ljS_s {m : Int} {d : Int → Int} {k : Int} (hk : 0 ≤ k) : ljS m d (k + 1) = if wy m d k = 0 then ljS m d k else foldG m (sjC d k) (ljS m d k) := foldG_s hk _ _
/-- inverses, as the class keeps them -/
def ivT (d : Int → Int) (a c : Int) (I : XX) (e : Int) : Bool := rel d e c && (decide (e = a) || rel d a e)
def ivV (m : Int) (d : Int → Int) (a c : Int) (I : XX) : Int := if a = c then 1 else if rel d a c then wr (-(foldZ m (fun v e => if ivT d a c I e then wr (v + I e) else v) 0)) else 0
def ivC (m : Int) (d : Int → Int) (a k : Int) (I : XX) (c : Int) : XX := if cnt (d c) = k then up I c (ivV m d a c I) else I
def ivK (m : Int) (d : Int → Int) (a k : Int) (I : XX) (c : Int) : XX := foldG c (ivC m d a k) I
def ivS (m : Int) (d : Int → Int) (a : Int) (I : XX) (k : Int) : XX := foldG k (fun I k => ivK m d a k I m) I
theorem ivS_s {m : Int} {d : Int → Int} {a k : Int} {I : XX} (hk : 0 ≤ k) : ivS m d a I (k + 1) = ivK m d a k (ivS m d a I k) m := foldG_s hk _ _
theorem ivK_s {m : Int} {d : Int → Int} {a k : Int} {I : XX} {c : Int} (hk : 0 ≤ c) : ivK m d a k I (c + 1) = ivC m d a k (ivK m d a k I c) c := foldG_s hk _ _
/-- the bounds that the class keeps -/
def BD (M : MM) (m : Int) (d : Int → Int) : Prop := ∀ a b, 0 ≤ a → a < m → 0 ≤ b → b < m → M 15 (a * 10 + b) = bnd m d 0 a b ∧ M 16 (a * 10 + b) = bnd m d 1 a b
theorem up_up (x : XX) (t c e : Int) : up (up x t c) t e = up x t e := by
  funext i
  unfold up
  split <;> rfl
theorem sjC_no {d : Int → Int} {s t : Int} {q : XX × XX} (hc : can d s t = false) : sjC d s q t = q := by unfold sjC; rw [if_neg (by rw [hc]; decide)]
theorem sjC_lt {d : Int → Int} {s t f : Int} {J L : XX} (hc : can d s t = true) (hf : f = sjF d s (J, L) t) (h : f < J (plus s t)) : sjC d s (J, L) t = (up J (plus s t) f, up L (plus s t) (zor 0 (zshl 1 t))) := by
  unfold sjC
  rw [if_pos hc, ← hf]
  exact if_pos h
theorem sjC_eq {d : Int → Int} {s t f : Int} {J L : XX} (hc : can d s t = true) (hf : f = sjF d s (J, L) t) (h : f = J (plus s t)) : sjC d s (J, L) t = (J, up L (plus s t) (zor (L (plus s t)) (zshl 1 t))) := by
  unfold sjC
  rw [if_pos hc, ← hf]
  have h1 : ¬ f < (J, L).1 (plus s t) := by show ¬ f < J (plus s t); omega
  rw [if_neg h1]
  exact if_pos h
theorem sjC_gt {d : Int → Int} {s t f : Int} {J L : XX} (hc : can d s t = true) (hf : f = sjF d s (J, L) t) (h : J (plus s t) < f) : sjC d s (J, L) t = (J, L) := by
  unfold sjC
  rw [if_pos hc, ← hf]
  have h1 : ¬ f < (J, L).1 (plus s t) := by show ¬ f < J (plus s t); omega
  have h2 : ¬ f = (J, L).1 (plus s t) := by show ¬ f = J (plus s t); omega
  rw [if_neg h1, if_neg h2]
