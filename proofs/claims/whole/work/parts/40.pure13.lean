/-! ===== answers that change some cells alone ===== -/
theorem B_iff {p q : Bool} : B p = B q ↔ p = q := by cases p <;> cases q <;> simp [B]
theorem st2_up (M : MM) (a k v : Int) : st2 M a k v a = up (M a) k v := by funext j; simp [st2, up]
def UQ (S : MM → MM → Prop) (rr0 : Option VV) (n0 : Nat) (K0 : KK) (M0 : MM) (E : MM → Prop) : QQ := fun rr n K M => rr = rr0 ∧ n = n0 ∧ K = K0 ∧ S M0 M ∧ E M
section ROWSU
variable {G : GG} {mi : MI} {R : Room} {Z : ZZ} {cs : Nat × Nat} {pc : Nat} {lc : LL} {r : List VV} {n : Nat} {K : KK} {M M0 : MM} {S : MM → MM → Prop}
theorem uqK {mc ms : Nat} {rr0 : Option VV} {n0 : Nat} {K0 : KK} {lc' : LL} {E : MM → Prop} (kk : ∀ M1, S M0 M1 → E M1 → MW G mi R Z (cs.1 + mc, cs.2 + ms) pc lc' (rr0.toList ++ r) n0 K0 M1) : ∀ (rr : Option VV) (n' : Nat) (K' : KK) (M' : MM), UQ S rr0 n0 K0 M0 E rr n' K' M' → MW G mi R Z (cs.1 + mc, cs.2 + ms) pc lc' (rr.toList ++ r) n' K' M' := by
  intro rr n' K' M' hq
  obtain ⟨rfl, rfl, rfl, h1, h2⟩ := hq
  exact kk M' h1 h2
theorem ru_i {x v : Int} {E : MM → Prop} (hd : decode mi.2.1 pc = .ok (.ireturn, 1)) (hrt : mi.2.2.2.2 = some .int) (hx : x = v) (hs : S M0 M) (hE : E M) : MW G mi R (MZ G (UQ S (some (0, v)) n K M0 E) cs.1 cs.2) cs pc lc [(0, x)] n K M := x_iret hd hrt ⟨by rw [hx], rfl, rfl, hs, hE⟩
theorem ru_b {b v : Bool} {E : MM → Prop} (hd : decode mi.2.1 pc = .ok (.ireturn, 1)) (hrt : mi.2.2.2.2 = some .boolean) (hx : b = v) (hs : S M0 M) (hE : E M) : MW G mi R (MZ G (UQ S (some (0, B v)) n K M0 E) cs.1 cs.2) cs pc lc [(0, B b)] n K M := x_zret hd hrt (B_01 b) ⟨by rw [hx], rfl, rfl, hs, hE⟩
theorem ru_l {x v : Int} {E : MM → Prop} (hd : decode mi.2.1 pc = .ok (.lreturn, 1)) (hrt : mi.2.2.2.2 = some .long) (hx : x = v) (hs : S M0 M) (hE : E M) : MW G mi R (MZ G (UQ S (some (2, v)) n K M0 E) cs.1 cs.2) cs pc lc [(2, x)] n K M := x_lret hd hrt ⟨by rw [hx], rfl, rfl, hs, hE⟩
theorem ru_v {E : MM → Prop} (hd : decode mi.2.1 pc = .ok (.return_, 1)) (hrt : mi.2.2.2.2 = none) (hs : S M0 M) (hE : E M) : MW G mi R (MZ G (UQ S none n K M0 E) cs.1 cs.2) cs pc lc [] n K M := x_vret hd hrt ⟨rfl, rfl, rfl, hs, hE⟩
end ROWSU
/-- the model's own rows of numbers, and what it keeps of TWO -/
def sd (M M1 : MM) : Prop := (∀ x : Int, ¬ (46 ≤ x ∧ x ≤ 54) → x ≠ 36 → M1 x = M x) ∧ ∀ k : Int, ¬ (21 ≤ k ∧ k ≤ 23) → M1 36 k = M 36 k
theorem sd.rf {M : MM} : sd M M := ⟨fun _ _ _ => rfl, fun _ _ => rfl⟩
theorem sd.tr {M M1 M2 : MM} (h1 : sd M M1) (h2 : sd M1 M2) : sd M M2 := ⟨fun x hx hy => (h2.1 x hx hy).trans (h1.1 x hx hy), fun k hk => (h2.2 k hk).trans (h1.2 k hk)⟩
theorem sd.st {M M1 : MM} (a : Int) (ha : (decide (46 ≤ a) && decide (a ≤ 54)) = true) (h : sd M M1) {k v : Int} : sd M (st2 M1 a k v) := by
  simp at ha
  exact ⟨fun x hx hy => by rw [st2_ne M1 (by omega)]; exact h.1 x hx hy, fun j hj => by rw [st2_ne M1 (by omega)]; exact h.2 j hj⟩
theorem sd.fd {M M1 : MM} (a k : Int) (ha : (decide (a = 36) && (decide (21 ≤ k) && decide (k ≤ 23))) = true) (h : sd M M1) {v : Int} : sd M (st2 M1 a k v) := by
  simp at ha
  obtain ⟨rfl, ha⟩ := ha
  refine ⟨fun x hx hy => by rw [st2_ne M1 hy]; exact h.1 x hx hy, fun j hj => ?_⟩
  rw [← h.2 j hj]
  simp [st2, show ¬ j = k by omega]
theorem sc.to_sd {M M1 : MM} (h : sc M M1) : sd M M1 := ⟨fun x hx _ => h x (by omega), fun k _ => by rw [h 36 (by omega)]⟩
theorem MO.off_sd {K : KK} {M M1 : MM} (h : MO K M) (hs : sd M M1) : MO K M1 := by
  have e36 : M1 36 0 = M 36 0 := hs.2 0 (by omega)
  have e38 : M1 38 = M 38 := hs.1 38 (by omega) (by omega)
  have e39 : M1 39 = M 39 := hs.1 39 (by omega) (by omega)
  refine ⟨h.1.of (fun q hq => ?_), by rw [e36]; exact h.2.1, by rw [e38]; exact h.2.2.1, by rw [e39]; exact h.2.2.2.1, by rw [e38, e39]; exact h.2.2.2.2⟩
  have h1 : ∀ q ∈ mfL, ¬ (46 ≤ q.1 ∧ q.1 ≤ 54) := by decide
  have h2 : ∀ q ∈ mfL, ¬ (21 ≤ q.2.1 ∧ q.2.1 ≤ 23) := by decide
  by_cases h3 : q.1 = 36
  · rw [h3, hs.2 q.2.1 (h2 q hq)]
  · rw [hs.1 q.1 (h1 q hq) h3]
theorem AT.off_sd {K : KK} {M M1 : MM} {o m : Int} {d : Int → Int} (h : AT K M o m d) (hs : sd M M1) : AT K M1 o m d := by
  have e38 : M1 38 = M 38 := hs.1 38 (by omega) (by omega)
  have e39 : M1 39 = M 39 := hs.1 39 (by omega) (by omega)
  exact ⟨h.1.off_sd hs, h.2.1, by rw [e38]; exact h.2.2.1, by unfold dM; rw [e39]; exact h.2.2.2⟩
