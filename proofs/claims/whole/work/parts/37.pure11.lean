/-! ===== words: fewest jumps, inverses ===== -/
def jvv (d : Int → Int) (s c : Int) (J : Int → Int) (l : Int) : Int := if s = 0 then 0 else if bt s l then J (10 * s + l) + B (!rel d l c) else 100
def jmL (d : Int → Int) (s c : Int) (J : Int → Int) (l : Int) : Int → Int := fun t => if t = 10 * plus s c + c then (if jvv d s c J l < J t then jvv d s c J l else J t) else J t
def jmC (m : Int) (d : Int → Int) (s : Int) (J : Int → Int) (c : Int) : Int → Int := if can d s c then foldG m (jmL d s c) J else J
def jmI (m : Int) (d : Int → Int) (s : Int) (J : Int → Int) (c : Int) : Int → Int := foldG c (jmC m d s) J
def jmS (m : Int) (d : Int → Int) (k : Int) : Int → Int := foldG k (fun J s => jmI m d s J m) (fun _ => 100)
theorem jmS_s {m : Int} {d : Int → Int} {k : Int} (hk : 0 ≤ k) : jmS m d (k + 1) = jmI m d k (jmS m d k) m := foldG_s hk _ _
theorem jmI_s {m : Int} {d : Int → Int} {s : Int} {J : Int → Int} {c : Int} (hk : 0 ≤ c) : jmI m d s J (c + 1) = jmC m d s (jmI m d s J c) c := foldG_s hk _ _
def jmX (m : Int) (d : Int → Int) (l : Int) : Int := jmS m d (p2 m) (10 * (p2 m - 1) + l)
def jmZ (m : Int) : Int := if m = 0 then 0 else 100
def jmB (m : Int) (d : Int → Int) : Int := foldZ m (fun b l => if jmX m d l < b then jmX m d l else b) (jmZ m)
def invT (d : Int → Int) (a c : Int) (I : Int → Int) (e : Int) : Int := if rel d e c && (decide (e = a) || rel d a e) then I e else 0
def invV (m : Int) (d : Int → Int) (a c : Int) (I : Int → Int) : Int := if rel d a c then foldZ m (fun v e => wr (v - invT d a c I e)) (B (decide (c = a))) else B (decide (c = a))
def invC (m : Int) (d : Int → Int) (a k : Int) (I : Int → Int) (c : Int) : Int → Int := if cnt (d c) = k then (fun t => if t = c then invV m d a c I else I t) else I
def invK (m : Int) (d : Int → Int) (a k : Int) (I : Int → Int) (c : Int) : Int → Int := foldG c (invC m d a k) I
def invS (m : Int) (d : Int → Int) (a : Int) (I : Int → Int) (k : Int) : Int → Int := foldG k (fun I k => invK m d a k I m) I
theorem invS_s {m : Int} {d : Int → Int} {a k : Int} {I : Int → Int} (hk : 0 ≤ k) : invS m d a I (k + 1) = invK m d a k (invS m d a I k) m := foldG_s hk _ _
theorem invK_s {m : Int} {d : Int → Int} {a k : Int} {I : Int → Int} {c : Int} (hk : 0 ≤ c) : invK m d a k I (c + 1) = invC m d a k (invK m d a k I c) c := foldG_s hk _ _
theorem invV_congr {m : Int} {d : Int → Int} {a c : Int} {I J : Int → Int} (h : ∀ e, 0 ≤ e → e < m → I e = J e) : invV m d a c I = invV m d a c J := by
  unfold invV
  split
  · exact foldZ_congr (fun x e h0 h1 => by unfold invT; rw [h e h0 h1])
  · rfl
theorem jmL_at (d : Int → Int) (s c : Int) (J : Int → Int) (l t : Int) : jmL d s c J l t = if t = 10 * plus s c + c then (if jvv d s c J l < J t then jvv d s c J l else J t) else J t := rfl
