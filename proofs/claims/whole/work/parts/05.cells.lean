/-! ===== the small machine: cells ===== -/
def CL (ci : Nat) : Prop := vwCl[ci]? = some (vC ci) ∧ (∀ w ∈ u_ws (vC ci).1 (vC ci).2.1 (vC ci).2.2, w ∈ mw_tbl) ∧ (∀ k, k < (vC ci).2.2 → parseFieldDescriptor ((vC ci).2.1 k).2.2.1 = some (tC ci k)) ∧ (∀ a, a < (vC ci).2.2 → ∀ b, b < (vC ci).2.2 → a ≠ b → ((vC ci).2.1 a).2.1 ≠ ((vC ci).2.1 b).2.1) ∧ (fT ci).length = (vC ci).2.2
theorem cl_0 : CL 0 := ⟨rfl, by decide +kernel, tyX0_ok, nmX0, rfl⟩
theorem cl_1 : CL 1 := ⟨rfl, by decide +kernel, tyX1_ok, nmX1, rfl⟩
theorem cl_2 : CL 2 := ⟨rfl, by decide +kernel, tyX2_ok, nmX2, rfl⟩
theorem cl_3 : CL 3 := ⟨rfl, by decide +kernel, tyX3_ok, nmX3, rfl⟩
theorem cl_4 : CL 4 := ⟨rfl, by decide +kernel, tyX4_ok, nmX4, rfl⟩
theorem cl_5 : CL 5 := ⟨rfl, by decide +kernel, tyX5_ok, nmX5, rfl⟩
theorem cl_6 : CL 6 := ⟨rfl, by decide +kernel, tyX6_ok, nmX6, rfl⟩
theorem cl_7 : CL 7 := ⟨rfl, by decide +kernel, tyX7_ok, nmX7, rfl⟩
theorem cl_8 : CL 8 := ⟨rfl, by decide +kernel, tyX8_ok, nmX8, rfl⟩
theorem cl_9 : CL 9 := ⟨rfl, by decide +kernel, tyX9_ok, nmX9, rfl⟩
theorem cl_10 : CL 10 := ⟨rfl, by decide +kernel, tyX10_ok, nmX10, rfl⟩
theorem cl_11 : CL 11 := ⟨rfl, by decide +kernel, tyX11_ok, nmX11, rfl⟩
theorem cl_12 : CL 12 := ⟨rfl, by decide +kernel, tyX12_ok, nmX12, rfl⟩
def st2 (M : MM) (a k v : Int) : MM := fun x j => if x = a then (if j = k then v else M x j) else M x j
def fitV (ty : FieldType) (t : Nat) (v : Int) : Prop := match ty with
  | .int => t = 0
  | .boolean => t = 0 ∧ (v = 0 ∨ v = 1)
  | .object _ => t = 1
  | .array _ => t = 1
  | _ => False
theorem fT_le (ci : Nat) : ∀ t ∈ fT ci, t ≤ 1 := by
  unfold fT
  split <;> decide
theorem ok_tag {t : Nat} {x : Int} (ht : t ≤ 1) (hx : inR x) : okV (t, x) := by
  match t, ht with
  | 0, _ => exact hx
  | 1, _ => exact hx
theorem fit_narrow {ty : FieldType} {t : Nat} {v : Int} {b : Nat} (h : fitV ty t v) : narrow ty (rv b (t, v)) = rv b (t, v) ∧ fits ty (rv b (t, v)) = true := by
  unfold fitV at h
  split at h
  · subst h; exact ⟨rfl, rfl⟩
  · obtain ⟨rfl, h⟩ := h
    rcases h with rfl | rfl <;> exact ⟨rfl, rfl⟩
  · subst h
    by_cases hv : v < 0
    · rw [rv_n hv]; exact ⟨rfl, rfl⟩
    · rw [rv_r (by omega)]; exact ⟨rfl, rfl⟩
  · subst h
    by_cases hv : v < 0
    · rw [rv_n hv]; exact ⟨rfl, rfl⟩
    · rw [rv_r (by omega)]; exact ⟨rfl, rfl⟩
  · exact h.elim
theorem HR.cell {G : GG} {n : Nat} {K : KK} {M : MM} {H : Heap} (h : HR G n K M H) {a : Int} (hk : (K a).1 ≠ 9) : 0 ≤ a ∧ a < n ∧ va_at G.2.1 vwCl (G.2.2.2 + a.toNat, cE G K M a) H :=
  ⟨(h.2.2.1 a hk).1, (h.2.2.1 a hk).2, h.2.2.2 a (h.2.2.1 a hk).1 (h.2.2.1 a hk).2⟩
theorem cE_obj {G : GG} {K : KK} {M : MM} {a : Int} {ci : Nat} (hk : K a = (0, ci)) : cE G K M a = .inr (ci, (fT ci).mapIdx (fun k t => rv G.2.2.2 (t, M a (k : Int)))) := by
  unfold cE
  rw [hk]
  rfl
theorem cE_int {G : GG} {K : KK} {M : MM} {a : Int} {ln : Nat} (hk : K a = (1, ln)) : cE G K M a = .inl (G.2.2.1.1, ln, .inl (fun j => Int32.ofInt (M a (j : Int)))) := by
  unfold cE
  rw [hk]
  rfl
theorem cE_ord {G : GG} {K : KK} {M : MM} {a : Int} {ln : Nat} (hk : K a = (2, ln)) : cE G K M a = .inl (G.2.2.1.2.1, ln, .inr (.inr (.inr (.inr (fun j => rf G.2.2.2 (M a (j : Int))))))) := by
  unfold cE
  rw [hk]
  rfl
theorem cE_sht {G : GG} {K : KK} {M : MM} {a : Int} {ln : Nat} (hk : K a = (3, ln)) : cE G K M a = .inl (G.2.2.1.2.2, ln, .inr (.inr (.inr (.inr (fun j => rf G.2.2.2 (M a (j : Int))))))) := by
  unfold cE
  rw [hk]
  rfl
theorem vpV_map {b : Nat} {l : List Nat} {f : Int → Int} {j t : Nat} (h : l[j]? = some t) : vp_V (l.mapIdx (fun k t => rv b (t, f (k : Int)))) j = rv b (t, f (j : Int)) := by
  unfold vp_V
  rw [List.getD_eq_getElem?_getD, List.getElem?_mapIdx, h]
  rfl
theorem va_P1 {D : va_G} {cl : List vw_C} {q : Nat × va_E} {H : Heap} (h : va_at D cl q H) : va_P D cl [q] H := by
  intro k x hx
  have hz : k < 1 := (List.getElem?_eq_some_iff.mp hx).1
  rw [show k = 0 by omega] at hx
  cases hx
  exact h
theorem HR.upd {G : GG} {n : Nat} {K : KK} {M M1 : MM} {H H1 : Heap} (h : HR G n K M H) {a : Int} (ha : 0 ≤ a) (hz : H1.size = H.size) (ho : ∀ q : Nat, q ≠ G.2.2.2 + a.toNat → H1[q]? = H[q]?) (hM : ∀ x, x ≠ a → M1 x = M x) (hr : ∀ k, inR (M1 a k)) (he : va_at G.2.1 vwCl (G.2.2.2 + a.toNat, cE G K M1 a) H1) : HR G n K M1 H1 := by
  refine ⟨hz.trans h.1, fun x k => ?_, h.2.2.1, fun x hx hxn => ?_⟩
  · by_cases hxa : x = a
    · rw [hxa]; exact hr k
    · rw [hM x hxa]; exact h.2.1 x k
  · by_cases hxa : x = a
    · rw [hxa]; exact he
    · have e1 : cE G K M1 x = cE G K M x := by unfold cE; rw [hM x hxa]
      rw [e1]
      exact (h.2.2.2 x hx hxn).kept (ho _ (show G.2.2.2 + x.toNat ≠ _ by omega))
theorem st2_ne (M : MM) {a k v x : Int} (h : x ≠ a) : st2 M a k v x = M x := by
  funext j
  unfold st2
  rw [if_neg h]
theorem st2_inR {M : MM} {a k v : Int} (h : ∀ x j, inR (M x j)) (hv : inR v) : ∀ x j, inR (st2 M a k v x j) := by
  intro x j
  unfold st2
  split
  · split
    · exact hv
    · exact h x j
  · exact h x j
theorem st2_self (M : MM) (a k v : Int) : st2 M a k v a k = v := by simp [st2]
section MWH
variable {G : GG} {mi : MI} {R : Room} {Z : ZZ} {cs : Nat × Nat} {pc : Nat} {lc : LL} {r : List VV} {n : Nat} {K : KK} {M : MM}
def sameF (ci k : Nat) (ref : String) : Prop := ∀ (args : Array Value) (s : State), (∀ w ∈ mw_tbl, w.before args s = true) → ∀ x, s.fieldFound? ((vC ci).2.1 k).1 ((vC ci).2.1 k).2.1 ((vC ci).2.1 k).2.2.1 = some x → s.fieldFound? ref ((vC ci).2.1 k).2.1 ((vC ci).2.1 k).2.2.1 = some x
theorem x_get {a : Int} {ci idx t : Nat} {ref : String} (k : Nat) (hd : decode mi.2.1 pc = .ok (.getfield idx, 3)) (hk : K a = (0, ci)) (hc : CL ci) (hN : k < (vC ci).2.2) (hw : Cond.fieldLink mi.2.2.1 idx ref ((vC ci).2.1 k).2.1 ((vC ci).2.1 k).2.2.1 ∈ mw_tbl) (hs : sameF ci k ref) (ht : (fT ci)[k]? = some t) (kk : MW G mi R Z cs (pc + 3) lc ((t, M a (k : Int)) :: r) n K M) : MW G mi R Z cs pc lc ((1, a) :: r) n K M := by
  intro p e s m args below meth c H locs ls cx hr hs0 hl hlo hso
  obtain ⟨hx, hb, hml, hown, hts, hlk, hret, hnm, hK, hbs⟩ := id cx
  obtain ⟨ha, hn, hat⟩ := hr.cell (a := a) (by rw [hk]; simp)
  rw [cE_obj hk] at hat
  have hP := va_P1 hat
  have hv : ((fT ci).mapIdx (fun k t => rv G.2.2.2 (t, M a (k : Int))))[k]? = some (rv G.2.2.2 (t, M a (k : Int))) := by
    rw [List.getElem?_mapIdx, ht]; rfl
  have k0 := kk p e s m args below meth c H locs ls cx hr hs0 hl hlo (List.forall_mem_cons.mpr ⟨ok_tag (fT_le ci t (List.mem_of_getElem? ht)) (hr.2.1 _ _), (List.forall_mem_cons.mp hso).2⟩)
  rw [List.map_cons, rv_r ha]
  exact va_get hx hb hts hc.2.1 hown hK.1 hP 0 rfl hc.1 k hN (hts _ hw) (hs args s hts) hv hd k0
theorem x_put {a v : Int} {ci idx t : Nat} {ref : String} (k : Nat) (hd : decode mi.2.1 pc = .ok (.putfield idx, 3)) (hk : K a = (0, ci)) (hc : CL ci) (hN : k < (vC ci).2.2) (hw : Cond.fieldLink mi.2.2.1 idx ref ((vC ci).2.1 k).2.1 ((vC ci).2.1 k).2.2.1 ∈ mw_tbl) (hs : sameF ci k ref) (hfin : ((vC ci).2.1 k).2.2.2 = false) (hf : fitV (tC ci k) t v) (ht : (fT ci)[k]? = some t) (kk : MW G mi R Z cs (pc + 3) lc r n K (st2 M a (k : Int) v)) : MW G mi R Z cs pc lc ((t, v) :: (1, a) :: r) n K M := by
  intro p e s m args below meth c H locs ls cx hr hs0 hl hlo hso
  obtain ⟨hx, hb, hml, hown, hts, hlk, hret, hnm, hK, hbs⟩ := id cx
  obtain ⟨ha, hn, hat⟩ := hr.cell (a := a) (by rw [hk]; simp)
  have hso' := (List.forall_mem_cons.mp (List.forall_mem_cons.mp hso).2).2
  have hok : okV (t, v) := (List.forall_mem_cons.mp hso).1
  have hvR : inR v := by
    match t, fT_le ci t (List.mem_of_getElem? ht), hok with
    | 0, _, h => exact h
    | 1, _, h => exact h
  rw [cE_obj hk] at hat
  have hap := va_apart (own := mi.2.2.1) hts hc.2.1 (tC ci) hc.2.2.1 hc.2.2.2.1 hK.1 hc.1
  obtain ⟨r', h1, cell, q1, q2, q3, q4⟩ := hat
  have hr' : r' = vC ci := Option.some.inj (h1.symm.trans hc.1)
  subst hr'
  obtain ⟨hS, hfc, kC, hkC, hkind⟩ := hK.1.1 ci _ hc.1
  obtain ⟨cf, kf, fi, f, hi, hsl⟩ := hS k hN
  have hlay := hts _ (hc.2.1 _ (u_in_lay hN))
  unfold u_lay at hlay
  rw [if_neg (by rw [hfin]; decide)] at hlay
  have hst := (u_facts hfc hkC (u_lays hts hc.2.1 hN) hi).1
  have h6 := u_store hfc hkC hkind hlay hi (hc.2.2.1 k hN) (fit_narrow (b := G.2.2.2) hf).1 (fit_narrow (b := G.2.2.2) hf).2
  rw [List.map_cons, List.map_cons, rv_r ha]
  refine W.putK hx hb (f := f) ⟨hown, hts _ hw, ⟨_, _, _, hs args s hts _ hi⟩, hst⟩ (by rw [q2]; exact h6) q1 q3 (by rw [hsl]; exact k2_hasslot (q4 k hN)) rfl rfl hd fun H' e1 e2 e3 => ?_
  rw [hsl] at e1 ⊢
  refine kk p e s m args below meth c H' _ ls cx (hr.upd ha e2 e3 (fun x hx => st2_ne M hx) (fun j => st2_inR hr.2.1 hvR a j) ?_) (hs0.put e2 e3 (show G.2.2.2 ≤ _ by omega)) hl hlo hso'
  rw [cE_obj hk]
  refine ⟨vC ci, hc.1, t_OB.to ⟨_, e1, q2, q3, t_set q4 hap hN _⟩ (fun j hj => ?_)⟩
  have hj2 : j < (fT ci).length := by rw [hc.2.2.2.2]; exact hj
  have htj : (fT ci)[j]? = some (fT ci)[j] := List.getElem?_eq_getElem hj2
  rw [vpV_map (f := st2 M a (k : Int) v a) htj]
  unfold updV
  by_cases hjk : j = k
  · subst hjk
    rw [if_pos rfl, st2_self]
    rw [ht] at htj
    rw [← Option.some.inj htj]
  · rw [if_neg hjk, vpV_map (f := M a) htj]
    unfold st2
    rw [if_pos rfl, if_neg (by omega)]
theorem x_putF {a v : Int} {ci idx t : Nat} {ref : String} (k : Nat) (hd : decode mi.2.1 pc = .ok (.putfield idx, 3)) (hk : K a = (0, ci)) (hc : CL ci) (hN : k < (vC ci).2.2) (hw : Cond.fieldLink mi.2.2.1 idx ref ((vC ci).2.1 k).2.1 ((vC ci).2.1 k).2.2.1 ∈ mw_tbl) (hs : sameF ci k ref) (hfin : ((vC ci).2.1 k).2.2.2 = true) (hin : mi.1.name = "<init>") (hdl : ((vC ci).2.1 k).1 = mi.2.2.1) (hf : fitV (tC ci k) t v) (ht : (fT ci)[k]? = some t) (kk : MW G mi R Z cs (pc + 3) lc r n K (st2 M a (k : Int) v)) : MW G mi R Z cs pc lc ((t, v) :: (1, a) :: r) n K M := by
  intro p e s m args below meth c H locs ls cx hr hs0 hl hlo hso
  obtain ⟨hx, hb, hml, hown, hts, hlk, hret, hnm, hK, hbs⟩ := id cx
  obtain ⟨ha, hn, hat⟩ := hr.cell (a := a) (by rw [hk]; simp)
  have hso' := (List.forall_mem_cons.mp (List.forall_mem_cons.mp hso).2).2
  have hok : okV (t, v) := (List.forall_mem_cons.mp hso).1
  have hvR : inR v := by
    match t, fT_le ci t (List.mem_of_getElem? ht), hok with
    | 0, _, h => exact h
    | 1, _, h => exact h
  rw [cE_obj hk] at hat
  have hap := va_apart (own := mi.2.2.1) hts hc.2.1 (tC ci) hc.2.2.1 hc.2.2.2.1 hK.1 hc.1
  obtain ⟨r', h1, cell, q1, q2, q3, q4⟩ := hat
  have hr' : r' = vC ci := Option.some.inj (h1.symm.trans hc.1)
  subst hr'
  obtain ⟨hS, hfc, kC, hkC, hkind⟩ := hK.1.1 ci _ hc.1
  obtain ⟨cf, kf, fi, f, hi, hsl⟩ := hS k hN
  have hlay := hts _ (hc.2.1 _ (u_in_lay hN))
  unfold u_lay at hlay
  rw [if_pos hfin] at hlay
  have hst := (u_facts hfc hkC (u_lays hts hc.2.1 hN) hi).1
  have hcf : m.cls = cf := by
    obtain ⟨_, _, c', _, _, _, -, -, hf', -, -, -, hown2, -⟩ := Cond.laysFinal_spec hlay
    have e1 : c' = cf := by have := hi.symm.trans hf'; simp at this; exact this.1.symm
    rw [hdl] at hown2
    rw [← e1]; exact Option.some.inj (hown.symm.trans hown2)
  have h6 := u_fits hfc hkC hkind (Or.inr hlay) hi (hc.2.2.1 k hN) (fit_narrow (b := G.2.2.2) hf).1 (fit_narrow (b := G.2.2.2) hf).2
  rw [List.map_cons, List.map_cons, rv_r ha]
  refine W.putFinK hx hb hown (hts _ hw) (hs args s hts _ hi) hst hcf (hnm.trans hin) (by rw [q2]; exact h6) q1 q3 (by rw [hsl]; exact k2_hasslot (q4 k hN)) rfl rfl hd fun H' e1 e2 e3 => ?_
  rw [hsl] at e1 ⊢
  refine kk p e s m args below meth c H' _ ls cx (hr.upd ha e2 e3 (fun x hx => st2_ne M hx) (fun j => st2_inR hr.2.1 hvR a j) ?_) (hs0.put e2 e3 (show G.2.2.2 ≤ _ by omega)) hl hlo hso'
  rw [cE_obj hk]
  refine ⟨vC ci, hc.1, t_OB.to ⟨_, e1, q2, q3, t_set q4 hap hN _⟩ (fun j hj => ?_)⟩
  have hj2 : j < (fT ci).length := by rw [hc.2.2.2.2]; exact hj
  have htj : (fT ci)[j]? = some (fT ci)[j] := List.getElem?_eq_getElem hj2
  rw [vpV_map (f := st2 M a (k : Int) v a) htj]
  unfold updV
  by_cases hjk : j = k
  · subst hjk
    rw [if_pos rfl, st2_self]
    rw [ht] at htj
    rw [← Option.some.inj htj]
  · rw [if_neg hjk, vpV_map (f := M a) htj]
    unfold st2
    rw [if_pos rfl, if_neg (by omega)]
theorem x_iald {a i : Int} {ln : Nat} (hd : decode mi.2.1 pc = .ok (.iaload, 1)) (hk : K a = (1, ln)) (hi : 0 ≤ i ∧ i < ln) (kk : MW G mi R Z cs (pc + 1) lc ((0, M a i) :: r) n K M) : MW G mi R Z cs pc lc ((0, i) :: (1, a) :: r) n K M := by
  intro p e s m args below meth c H locs ls cx hr hs0 hl hlo hso
  obtain ⟨hx, hb, hml, hown, hts, hlk, hret, hnm, hK, hbs⟩ := id cx
  obtain ⟨ha, hn, hat⟩ := hr.cell (a := a) (by rw [hk]; simp)
  have hiR : inR i := (List.forall_mem_cons.mp hso).1
  have hso' := (List.forall_mem_cons.mp (List.forall_mem_cons.mp hso).2).2
  have k0 := kk p e s m args below meth c H locs ls cx hr hs0 hl hlo (List.forall_mem_cons.mpr ⟨hr.2.1 _ _, hso'⟩)
  rw [cE_int hk] at hat
  rw [List.map_cons, List.map_cons, rv_r ha, rv_i]
  refine va_iald hx hb hK.1 (va_P1 hat) 0 0 rfl rfl (fun q => ?_) hd ?_
  · rcases q with q | q
    · have := (i3_lt hiR (show inR 0 from ⟨by omega, by omega⟩)).mp q
      omega
    · rw [i3_nat hiR] at q; omega
  · rw [i3_nat hiR, show ((i.toNat : Nat) : Int) = i by omega]
    exact k0
theorem x_iast {a i v : Int} {ln : Nat} (hd : decode mi.2.1 pc = .ok (.iastore, 1)) (hk : K a = (1, ln)) (hi : 0 ≤ i ∧ i < ln) (kk : MW G mi R Z cs (pc + 1) lc r n K (st2 M a i v)) : MW G mi R Z cs pc lc ((0, v) :: (0, i) :: (1, a) :: r) n K M := by
  intro p e s m args below meth c H locs ls cx hr hs0 hl hlo hso
  obtain ⟨hx, hb, hml, hown, hts, hlk, hret, hnm, hK, hbs⟩ := id cx
  obtain ⟨ha, hn, hat⟩ := hr.cell (a := a) (by rw [hk]; simp)
  have hvR : inR v := (List.forall_mem_cons.mp hso).1
  have hiR : inR i := (List.forall_mem_cons.mp (List.forall_mem_cons.mp hso).2).1
  have hso' := (List.forall_mem_cons.mp (List.forall_mem_cons.mp (List.forall_mem_cons.mp hso).2).2).2
  rw [cE_int hk] at hat
  rw [List.map_cons, List.map_cons, List.map_cons, rv_r ha, rv_i, rv_i]
  have hin : vp_in (Int32.ofInt i) ln := by
    intro q
    rcases q with q | q
    · have := (i3_lt hiR (show inR 0 from ⟨by omega, by omega⟩)).mp q
      omega
    · rw [i3_nat hiR] at q; omega
  have hat' : H[G.2.2.2 + a.toNat]? = some (vp_cell G.2.2.1.1 (ln, .inl (fun j => Int32.ofInt (M a (j : Int))))) := hat
  refine W.iast hx hb hat' ((hK.1.2 0 _ rfl).1 ln (fun j => .int (Int32.ofInt (M a (j : Int))))) (fun q => by cases q) (by show ¬ (_ < 0 ∨ (arrV _ _ _).slots.size ≤ _); rw [arrV_size]; exact hin) rfl rfl hd fun H1 e z oq => ?_
  refine kk p _ s m args below meth c H1 _ ls cx (hr.upd ha z oq (fun x hx => st2_ne M hx) (fun j => st2_inR hr.2.1 hvR a j) ?_) (hs0.put z oq (show G.2.2.2 ≤ _ by omega)) hl hlo hso'
  rw [cE_int hk]
  show H1[G.2.2.2 + a.toNat]? = some (vp_cell _ _)
  rw [e, vp_cell_i, vp_cell_i, arrV_store, i3_nat hiR]
  congr 2
  funext q
  unfold updV st2
  by_cases hq : q = i.toNat
  · rw [if_pos hq, if_pos rfl, if_pos (by omega)]
  · rw [if_neg hq, if_pos rfl, if_neg (by omega)]
theorem x_alen {a : Int} {ln : Nat} (hd : decode mi.2.1 pc = .ok (.arraylength, 1)) (hk : K a = (1, ln)) (hl0 : ln < 2147483648) (kk : MW G mi R Z cs (pc + 1) lc ((0, (ln : Int)) :: r) n K M) : MW G mi R Z cs pc lc ((1, a) :: r) n K M := by
  intro p e s m args below meth c H locs ls cx hr hs0 hl hlo hso
  obtain ⟨hx, hb, hml, hown, hts, hlk, hret, hnm, hK, hbs⟩ := id cx
  obtain ⟨ha, hn, hat⟩ := hr.cell (a := a) (by rw [hk]; simp)
  have hso' := (List.forall_mem_cons.mp hso).2
  have k0 := kk p e s m args below meth c H locs ls cx hr hs0 hl hlo (List.forall_mem_cons.mpr ⟨show inR _ from ⟨by omega, by omega⟩, hso'⟩)
  rw [cE_int hk] at hat
  rw [List.map_cons, rv_r ha]
  exact va_alen hx hb hK.1 (va_P1 hat) 0 0 rfl rfl (Int32.ofInt_eq_ofNat).symm hd k0
/-- a row of Orders (2), of Sheets (3) -/
theorem x_aald {a i : Int} {ln t : Nat} (hd : decode mi.2.1 pc = .ok (.aaload, 1)) (ht : t = 2 ∨ t = 3) (hk : K a = (t, ln)) (hi : 0 ≤ i ∧ i < ln) (kk : MW G mi R Z cs (pc + 1) lc ((1, M a i) :: r) n K M) : MW G mi R Z cs pc lc ((0, i) :: (1, a) :: r) n K M := by
  intro p e s m args below meth c H locs ls cx hr hs0 hl hlo hso
  obtain ⟨hx, hb, hml, hown, hts, hlk, hret, hnm, hK, hbs⟩ := id cx
  obtain ⟨ha, hn, hat⟩ := hr.cell (a := a) (by rw [hk]; rcases ht with rfl | rfl <;> simp)
  have hiR : inR i := (List.forall_mem_cons.mp hso).1
  have hso' := (List.forall_mem_cons.mp (List.forall_mem_cons.mp hso).2).2
  have k0 := kk p e s m args below meth c H locs ls cx hr hs0 hl hlo (List.forall_mem_cons.mpr ⟨hr.2.1 _ _, hso'⟩)
  rw [List.map_cons, List.map_cons, rv_r ha, rv_i]
  have hin : vp_in (Int32.ofInt i) ln := by
    intro q
    rcases q with q | q
    · have := (i3_lt hiR (show inR 0 from ⟨by omega, by omega⟩)).mp q
      omega
    · rw [i3_nat hiR] at q; omega
  rcases ht with rfl | rfl
  · rw [cE_ord hk] at hat
    refine va_aldq hx hb hK.1 (va_P1 hat) 0 1 rfl rfl hin hd ?_
    rw [i3_nat hiR, show ((i.toNat : Nat) : Int) = i by omega, va_rf_rf]
    exact k0
  · rw [cE_sht hk] at hat
    refine va_aldq hx hb hK.1 (va_P1 hat) 0 2 rfl rfl hin hd ?_
    rw [i3_nat hiR, show ((i.toNat : Nat) : Int) = i by omega, va_rf_rf]
    exact k0
end MWH
