/-! ===== the small machine: what is made, rows of references, classes, constants ===== -/
def upK (K : KK) (a : Int) (k : Nat × Nat) : KK := fun x => if x = a then k else K x
/-- a new cell: ints 0, references null, by its tags -/
def zM (M : MM) (a : Int) (l : List Nat) : MM := fun x j => if x = a then (if l.getD j.toNat 0 = 1 then -1 else 0) else M x j
/-- a new row of references -/
def nM (M : MM) (a : Int) : MM := fun x j => if x = a then -1 else M x j
def dvT (t : Nat) : Value := if t = 1 then .null else .int 0
def CD (ci : Nat) : Prop := ∀ k, k < (vC ci).2.2 → defaultValue (tC ci k) = dvT ((fT ci).getD k 0)
theorem dv_ok {b : Nat} {t : Nat} (ht : t ≤ 1) : rv b (t, if t = 1 then -1 else 0) = dvT t := by
  match t, ht with
  | 0, _ => rfl
  | 1, _ => rfl
theorem HR.push {G : GG} {n : Nat} {K : KK} {M M1 : MM} {H H1 : Heap} {k : Nat × Nat} (h : HR G n K M H) (hz : H1.size = H.size + 1) (ho : ∀ q : Nat, q < H.size → H1[q]? = H[q]?) (hM : ∀ x : Int, x ≠ n → M1 x = M x) (hr : ∀ j, inR (M1 n j)) (he : va_at G.2.1 vwCl (G.2.2.2 + n, cE G (upK K n k) M1 n) H1) : HR G (n + 1) (upK K n k) M1 H1 := by
  refine ⟨by rw [hz, h.1]; omega, fun x j => ?_, fun x hx => ?_, fun x hx hxn => ?_⟩
  · by_cases hxa : x = n
    · rw [hxa]; exact hr j
    · rw [hM x hxa]; exact h.2.1 x j
  · by_cases hxa : x = n
    · omega
    · unfold upK at hx
      rw [if_neg hxa] at hx
      have := h.2.2.1 x hx
      omega
  · by_cases hxa : x = n
    · subst hxa; exact he
    · have e0 : upK K n k x = K x := if_neg hxa
      have e1 : cE G (upK K n k) M1 x = cE G K M x := by unfold cE; rw [hM x hxa, e0]
      rw [e1]
      have hat := h.2.2.2 x hx (by omega)
      exact hat.kept (ho _ hat.lt)
section MWN
variable {G : GG} {mi : MI} {R : Room} {Z : ZZ} {cs : Nat × Nat} {pc : Nat} {lc : LL} {r : List VV} {n : Nat} {K : KK} {M : MM} {Q : QQ}
theorem zM_ne (M : MM) {a x : Int} {l : List Nat} (h : x ≠ a) : zM M a l x = M x := by
  funext j
  unfold zM
  rw [if_neg h]
theorem nM_ne (M : MM) {a x : Int} (h : x ≠ a) : nM M a x = M x := by
  funext j
  unfold nM
  rw [if_neg h]
theorem x_new {ci idx : Nat} (hd : decode mi.2.1 pc = .ok (.new idx, 3)) (hc : CL ci) (hcd : CD ci) (hw : Cond.classLink mi.2.2.1 idx (vC ci).1 ∈ mw_tbl) (hi : Cond.instantiable (vC ci).1 (vC ci).2.2 ∈ mw_tbl) (hini : Cond.initialized (vC ci).1 ∈ mw_tbl) (hn : n < 2147483647) (hfit : cs.1 + 1 ≤ R.cells ∧ cs.2 + (vC ci).2.2 ≤ R.slots)
    (kk : MW G mi R Z (cs.1 + 1, cs.2 + (vC ci).2.2) (pc + 3) lc ((1, (n : Int)) :: r) (n + 1) (upK K n (0, ci)) (zM M n (fT ci))) : MW G mi R Z cs pc lc r n K M := by
  intro p e s m args below meth c H locs ls cx hr hs hl hlo hso
  obtain ⟨hx, hb, hml, hown, hts, hlk, hret, hnm, hK, hbs⟩ := id cx
  have hKn := hK.1.1 ci _ hc.1
  refine W.newcK hx hb hown (hts _ hw) (hts _ hi) (hts _ hini) rfl hd hfit.1 hfit.2 hKn.2.1 rfl fun H1 kC hkC e1 z1 o1 => ?_
  have hHR : HR G (n + 1) (upK K n (0, ci)) (zM M n (fT ci)) H1 := by
    refine hr.push z1 o1 (fun x hx => zM_ne M hx) (fun j => ?_) ?_
    · unfold zM; rw [if_pos rfl]; split <;> exact ⟨by omega, by omega⟩
    · rw [cE_obj (ci := ci) (if_pos rfl)]
      rw [hr.1] at e1
      refine ⟨vC ci, hc.1, (u_born (tC ci) hts hc.2.1 hKn hkC e1 hc.2.2.1).to (fun j hj => ?_)⟩
      have hj2 : j < (fT ci).length := by rw [hc.2.2.2.2]; exact hj
      have htj : (fT ci)[j]? = some (fT ci)[j] := List.getElem?_eq_getElem hj2
      rw [vpV_map (f := zM M n (fT ci) n) htj, hcd j hj]
      have e2 : zM M n (fT ci) n (j : Int) = if (fT ci)[j] = 1 then -1 else 0 := by
        unfold zM
        rw [if_pos rfl, show ((j : Int)).toNat = j from rfl, List.getD_eq_getElem?_getD, htj]
        rfl
      rw [e2, dv_ok (fT_le ci _ (List.getElem_mem hj2)), List.getD_eq_getElem?_getD, htj]
      rfl
  have k0 := kk p e s m args below meth c H1 locs ls cx hHR ⟨Nat.le_trans hs.1 (by omega), fun x h1 h2 => (o1 x (Nat.lt_of_lt_of_le h1 hs.1)).trans (hs.2.1 x h1 h2), hs.2.2⟩ hl hlo (List.forall_mem_cons.mpr ⟨show inR _ from ⟨by omega, by omega⟩, hso⟩)
  rw [List.map_cons, rv_r (by omega)] at k0
  rw [hr.1]
  exact k0
theorem x_newi {idx : ArrayType} {v : Int} (hd : decode mi.2.1 pc = .ok (.newarray idx, 2)) (hidx : newarray.typeOf idx = .int) (hv : 0 ≤ v ∧ v < 100000) (hw : Cond.arrayClass .int ∈ mw_tbl) (hn : n < 2147483647) (hfit : cs.1 + 1 ≤ R.cells ∧ cs.2 + v.toNat ≤ R.slots)
    (kk : MW G mi R Z (cs.1 + 1, cs.2 + v.toNat) (pc + 2) lc ((1, (n : Int)) :: r) (n + 1) (upK K n (1, v.toNat)) (zM M n [])) : MW G mi R Z cs pc lc ((0, v) :: r) n K M := by
  intro p e s m args below meth c H locs ls cx hr hs hl hlo hso
  obtain ⟨hx, hb, hml, hown, hts, hlk, hret, hnm, hK, hbs⟩ := id cx
  have hvR : inR v := (List.forall_mem_cons.mp hso).1
  have hso' := (List.forall_mem_cons.mp hso).2
  refine va_newaK hx hb (atype := idx) (by rw [hidx]; exact hts _ hw) rfl hd rfl (fun q => ?_) (i3_nat hvR) (by rw [hidx]; show v.toNat * 4 ≤ _; omega) hfit.1 hfit.2 rfl fun H1 cA e1 z1 o1 hAr hNm => ?_
  · have := (i3_lt hvR (show inR 0 from ⟨by omega, by omega⟩)).mp q
    omega
  · have hcA : cA = G.2.2.1.1 := by
      rw [hidx] at hNm
      exact Option.some.inj (hNm.symm.trans (hK.1.2 0 _ rfl).2)
    subst hcA
    have hHR : HR G (n + 1) (upK K n (1, v.toNat)) (zM M n []) H1 := by
      refine hr.push z1 o1 (fun x hx => zM_ne M hx) (fun j => ?_) ?_
      · unfold zM; rw [if_pos rfl]; split <;> exact ⟨by omega, by omega⟩
      · rw [cE_int (ln := v.toNat) (if_pos rfl)]
        rw [hr.1, hidx] at e1
        show H1[G.2.2.2 + n]? = some (vp_cell _ _)
        rw [e1, vp_cell_i]
        congr 2
        funext j
        unfold zM
        rw [if_pos rfl]
        rfl
    have k0 := kk p e s m args below meth c H1 locs ls cx hHR ⟨Nat.le_trans hs.1 (by omega), fun x h1 h2 => (o1 x (Nat.lt_of_lt_of_le h1 hs.1)).trans (hs.2.1 x h1 h2), hs.2.2⟩ hl hlo (List.forall_mem_cons.mpr ⟨show inR _ from ⟨by omega, by omega⟩, hso'⟩)
    rw [List.map_cons, rv_r (by omega)] at k0
    rw [hr.1]
    exact k0
/-- the classes of rows of references -/
def aC (t : Nat) : String := match t with
  | 2 => "HalfOrders$Order"
  | _ => "HalfOrders$Sheet"
theorem x_anew {idx t : Nat} {v : Int} (hd : decode mi.2.1 pc = .ok (.anewarray idx, 3)) (ht : t = 2 ∨ t = 3) (hv : 0 ≤ v ∧ v < 100000) (hw : Cond.classLink mi.2.2.1 idx (aC t) ∈ mw_tbl) (hn : n < 2147483647) (hfit : cs.1 + 1 ≤ R.cells ∧ cs.2 + v.toNat ≤ R.slots)
    (kk : MW G mi R Z (cs.1 + 1, cs.2 + v.toNat) (pc + 3) lc ((1, (n : Int)) :: r) (n + 1) (upK K n (t, v.toNat)) (nM M n)) : MW G mi R Z cs pc lc ((0, v) :: r) n K M := by
  intro p e s m args below meth c H locs ls cx hr hs hl hlo hso
  obtain ⟨hx, hb, hml, hown, hts, hlk, hret, hnm, hK, hbs⟩ := id cx
  have hvR : inR v := (List.forall_mem_cons.mp hso).1
  have hso' := (List.forall_mem_cons.mp hso).2
  have hao : va_AO (aC t) s := by
    rcases ht with rfl | rfl
    · exact hK.2.2.2.2.1
    · exact hK.2.2.2.2.2
  rw [List.map_cons, rv_i]
  refine W.anew hx hb hown (hts _ hw) (va_AO.use hao) rfl hd rfl (fun q => ?_) (by rw [i3_nat hvR]; omega) hfit.1 (by rw [i3_nat hvR]; exact hfit.2) fun cA kA comp f1 f2 f3 f4 => ?_
  · have := (i3_lt hvR (show inR 0 from ⟨by omega, by omega⟩)).mp q
    omega
  · rw [i3_nat hvR]
    generalize hH1 : H.push ({ cls := cA, slots := Array.replicate v.toNat .null, vm := .none } : Cell) = H1
    have z1 : H1.size = H.size + 1 := by rw [← hH1, Array.size_push]
    have e1 : H1[H.size]? = some (arrV cA v.toNat (fun _ => .null)) := by rw [← hH1, Array.getElem?_push_size, ← arrV_new]
    have o1 : ∀ q : Nat, q < H.size → H1[q]? = H[q]? := fun q hq => by rw [← hH1, Array.getElem?_push, if_neg (Nat.ne_of_lt hq)]
    have hHR : HR G (n + 1) (upK K n (t, v.toNat)) (nM M n) H1 := by
      refine hr.push z1 o1 (fun x hx => nM_ne M hx) (fun j => ?_) ?_
      · unfold nM; rw [if_pos rfl]; exact ⟨by omega, by omega⟩
      · rw [hr.1] at e1
        rcases ht with rfl | rfl
        · have hcA : cA = G.2.2.1.2.1 := by
            obtain ⟨_, _, _, _, _, h4⟩ := (hK.1.2 1 _ rfl).2
            exact Option.some.inj (f1.symm.trans h4)
          subst hcA
          rw [cE_ord (ln := v.toNat) (if_pos rfl)]
          show H1[G.2.2.2 + n]? = some (vp_cell _ _)
          rw [e1, vp_cell_q]
          congr 2
          funext j
          unfold nM rf
          rw [if_pos rfl, if_pos (by omega)]
          rfl
        · have hcA : cA = G.2.2.1.2.2 := by
            obtain ⟨_, _, _, _, _, h4⟩ := (hK.1.2 2 _ rfl).2
            exact Option.some.inj (f1.symm.trans h4)
          subst hcA
          rw [cE_sht (ln := v.toNat) (if_pos rfl)]
          show H1[G.2.2.2 + n]? = some (vp_cell _ _)
          rw [e1, vp_cell_q]
          congr 2
          funext j
          unfold nM rf
          rw [if_pos rfl, if_pos (by omega)]
          rfl
    have k0 := kk p e s m args below meth c H1 locs ls cx hHR ⟨Nat.le_trans hs.1 (by omega), fun x h1 h2 => (o1 x (Nat.lt_of_lt_of_le h1 hs.1)).trans (hs.2.1 x h1 h2), hs.2.2⟩ hl hlo (List.forall_mem_cons.mpr ⟨show inR _ from ⟨by omega, by omega⟩, hso'⟩)
    rw [List.map_cons, rv_r (by omega)] at k0
    rw [hr.1]
    exact k0
/-- a class that a row takes -/
def aOk (t ci : Nat) : Prop := (t = 2 ∧ (ci = 4 ∨ ((vC ci).1, "HalfOrders$Order") ∈ cal)) ∨ (t = 3 ∧ ci = 8)
theorem cE_refs {a : Int} {t ln : Nat} (ht : t = 2 ∨ t = 3) (hk : K a = (t, ln)) : cE G K M a = .inl (if t = 2 then G.2.2.1.2.1 else G.2.2.1.2.2, ln, .inr (.inr (.inr (.inr (fun j => rf G.2.2.2 (M a (j : Int))))))) := by
  rcases ht with rfl | rfl
  · exact cE_ord hk
  · exact cE_sht hk
theorem x_aastN {a i : Int} {t ln : Nat} {v : Int} (hd : decode mi.2.1 pc = .ok (.aastore, 1)) (ht : t = 2 ∨ t = 3) (hk : K a = (t, ln)) (hi : 0 ≤ i ∧ i < ln) (hv : v < 0) (kk : MW G mi R Z cs (pc + 1) lc r n K (st2 M a i v)) : MW G mi R Z cs pc lc ((1, v) :: (0, i) :: (1, a) :: r) n K M := by
  intro p e s m args below meth c H locs ls cx hr hs0 hl hlo hso
  obtain ⟨hx, hb, hml, hown, hts, hlk, hret, hnm, hK, hbs⟩ := id cx
  obtain ⟨ha, hn, hat⟩ := hr.cell (a := a) (by rw [hk]; rcases ht with rfl | rfl <;> simp)
  have hvR : inR v := (List.forall_mem_cons.mp hso).1
  have hiR : inR i := (List.forall_mem_cons.mp (List.forall_mem_cons.mp hso).2).1
  have hso' := (List.forall_mem_cons.mp (List.forall_mem_cons.mp (List.forall_mem_cons.mp hso).2).2).2
  rw [cE_refs ht hk] at hat
  rw [List.map_cons, List.map_cons, List.map_cons, rv_r ha, rv_i, rv_n hv]
  have hin : vp_in (Int32.ofInt i) ln := by
    intro q
    rcases q with q | q
    · have := (i3_lt hiR (show inR 0 from ⟨by omega, by omega⟩)).mp q
      omega
    · rw [i3_nat hiR] at q; omega
  have hT : ∃ C, ArrOfT s (if t = 2 then G.2.2.1.2.1 else G.2.2.1.2.2) (.object C) := by
    rcases ht with rfl | rfl
    · exact ⟨_, (hK.1.2 1 _ rfl).1⟩
    · exact ⟨_, (hK.1.2 2 _ rfl).1⟩
  obtain ⟨C, hT⟩ := hT
  refine va_WaastN (C := C) hx hb hat (hT ln (fun j => va_rf (rf G.2.2.2 (M a (j : Int))))) (fun q => by cases q) (by show ¬ (_ < 0 ∨ (arrV _ _ _).slots.size ≤ _); rw [arrV_size]; exact hin) rfl rfl hd fun H1 e z oq => ?_
  refine kk p _ s m args below meth c H1 _ ls cx (hr.upd ha z oq (fun x hx => st2_ne M hx) (fun j => st2_inR hr.2.1 hvR a j) ?_) (hs0.put z oq (show G.2.2.2 ≤ _ by omega)) hl hlo hso'
  rw [cE_refs ht hk]
  show H1[G.2.2.2 + a.toNat]? = some (vp_cell _ _)
  rw [e, vp_cell_q, vp_cell_q, arrV_store, i3_nat hiR]
  congr 2
  funext q
  unfold updV st2
  by_cases hq : q = i.toNat
  · rw [if_pos hq, if_pos rfl, if_pos (by omega), va_rf_rf, rv_n hv]
  · rw [if_neg hq, if_pos rfl, if_neg (by omega)]
theorem x_aast {a i : Int} {t ln ci : Nat} {v : Int} (hd : decode mi.2.1 pc = .ok (.aastore, 1)) (hk : K a = (t, ln)) (hi : 0 ≤ i ∧ i < ln) (hkv : K v = (0, ci)) (hc : CL ci) (hok : aOk t ci) (kk : MW G mi R Z cs (pc + 1) lc r n K (st2 M a i v)) : MW G mi R Z cs pc lc ((1, v) :: (0, i) :: (1, a) :: r) n K M := by
  intro p e s m args below meth c H locs ls cx hr hs0 hl hlo hso
  obtain ⟨hx, hb, hml, hown, hts, hlk, hret, hnm, hK, hbs⟩ := id cx
  have ht : t = 2 ∨ t = 3 := by rcases hok with h | h; exact Or.inl h.1; exact Or.inr h.1
  obtain ⟨ha, hn, hat⟩ := hr.cell (a := a) (by rw [hk]; rcases ht with rfl | rfl <;> simp)
  obtain ⟨hv0, hvn, hatv⟩ := hr.cell (a := v) (by rw [hkv]; simp)
  rw [cE_obj hkv] at hatv
  have hvR : inR v := (List.forall_mem_cons.mp hso).1
  have hiR : inR i := (List.forall_mem_cons.mp (List.forall_mem_cons.mp hso).2).1
  have hso' := (List.forall_mem_cons.mp (List.forall_mem_cons.mp (List.forall_mem_cons.mp hso).2).2).2
  rw [cE_refs ht hk] at hat
  rw [List.map_cons, List.map_cons, List.map_cons, rv_r ha, rv_i, rv_r hv0]
  obtain ⟨rr, hr1, cellV, g1, g2, g3, -⟩ := hatv
  have hrr : rr = vC ci := Option.some.inj (hr1.symm.trans hc.1)
  subst hrr
  obtain ⟨hfcv, kv, hkvv, -⟩ := (hK.1.1 ci _ hc.1).2
  have hT : ∃ (kA : Class) (comp : ClassId) (C : String) (kcomp : Class), s.vm.classes[(if t = 2 then G.2.2.1.2.1 else G.2.2.1.2.2 : ClassId)]? = some kA ∧ kA.kind = .array comp (.object C) ∧ s.vm.classes[comp]? = some kcomp ∧ s.vm.assignable (G.2.1.1 ci) comp = true := by
    rcases hok with ⟨rfl, hci⟩ | ⟨rfl, rfl⟩
    · obtain ⟨kA, comp, k1, k2, k3, -⟩ := (hK.1.2 1 _ rfl).2
      obtain ⟨hf4, k4, hk4, -⟩ := (hK.1.1 4 _ cl_4.1).2
      have hcomp : comp = G.2.1.1 4 := Option.some.inj (k3.symm.trans hf4)
      subst hcomp
      refine ⟨kA, _, _, k4, k1, k2, hk4, ?_⟩
      rcases hci with rfl | hci
      · exact va_assign (hK.1.1 4 _ cl_4.1).2
      · obtain ⟨c1, c2, h1, h2, h3⟩ := hK.2.2.1 _ hci
        have e1 : c1 = G.2.1.1 ci := Option.some.inj (h1.symm.trans hfcv)
        have e2 : c2 = G.2.1.1 4 := Option.some.inj (h2.symm.trans hf4)
        rw [← e1, ← e2]; exact h3
    · obtain ⟨kA, comp, k1, k2, k3, -⟩ := (hK.1.2 2 _ rfl).2
      obtain ⟨hf4, k4, hk4, -⟩ := (hK.1.1 8 _ cl_8.1).2
      have hcomp : comp = G.2.1.1 8 := Option.some.inj (k3.symm.trans hf4)
      subst hcomp
      exact ⟨kA, _, _, k4, k1, k2, hk4, va_assign (hK.1.1 8 _ cl_8.1).2⟩
  obtain ⟨kA, comp, C, kcomp, k1, k2, k3, k4⟩ := hT
  refine W.aast hx hb hat (fun q h => by cases h) (fun h => by cases h) k1 k2 rfl k3 ⟨fun q => ?_, ?_⟩ g1 (fun q h => by rw [g3] at h; cases h) (by rw [g2]; exact hkvv) (by rw [g2]; exact k4) rfl rfl hd fun H1 e z oq => ?_
  · have := (i3_lt hiR (show inR 0 from ⟨by omega, by omega⟩)).mp q
    omega
  · show _ < (arrV _ _ _).slots.size
    rw [arrV_size, i3_nat hiR]
    show i.toNat < ln
    omega
  · refine kk p _ s m args below meth c H1 _ ls cx (hr.upd ha z oq (fun x hx => st2_ne M hx) (fun j => st2_inR hr.2.1 hvR a j) ?_) (hs0.put z oq (show G.2.2.2 ≤ _ by omega)) hl hlo hso'
    rw [cE_refs ht hk]
    show H1[G.2.2.2 + a.toNat]? = some (vp_cell _ _)
    rw [e, vp_cell_q, vp_cell_q, arrV_store, i3_nat hiR]
    congr 2
    funext q
    unfold updV st2
    by_cases hq : q = i.toNat
    · rw [if_pos hq, if_pos rfl, if_pos (by omega), va_rf_rf, rv_r hv0]
    · rw [if_neg hq, if_pos rfl, if_neg (by omega)]
theorem x_instY {a : Int} {ci idx : Nat} {nm : String} (hd : decode mi.2.1 pc = .ok (.instanceof idx, 3)) (hk : K a = (0, ci)) (hc : CL ci) (hw : Cond.classLink mi.2.2.1 idx nm ∈ mw_tbl) (hok : (vC ci).1 = nm ∨ ((vC ci).1, nm) ∈ cal) (kk : MW G mi R Z cs (pc + 3) lc ((0, 1) :: r) n K M) : MW G mi R Z cs pc lc ((1, a) :: r) n K M := by
  intro p e s m args below meth c H locs ls cx hr hs0 hl hlo hso
  obtain ⟨hx, hb, hml, hown, hts, hlk, hret, hnm, hK, hbs⟩ := id cx
  have ha : 0 ≤ a := (hr.cell (a := a) (by rw [hk]; simp)).1
  have k0 := kk p e s m args below meth c H locs ls cx hr hs0 hl hlo (List.forall_mem_cons.mpr ⟨show inR 1 from ⟨by omega, by omega⟩, (List.forall_mem_cons.mp hso).2⟩)
  rw [List.map_cons, rv_r ha]
  obtain ⟨cell, h1, h2, h3⟩ := mrecv hr hK hk hc
  have hca : ∃ t0, s.vm.findClass nm = some t0 ∧ s.vm.assignable cell.cls t0 = true := by
    rcases hok with rfl | hok
    · have hat := (hK.1.1 ci _ hc.1).2
      have e1 : cell.cls = G.2.1.1 ci := Option.some.inj (h3.symm.trans hat.1)
      exact ⟨_, hat.1, by rw [e1]; exact va_assign hat⟩
    · obtain ⟨c1, c2, f1, f2, f3⟩ := hK.2.2.1 _ hok
      have e1 : c1 = cell.cls := Option.some.inj (f1.symm.trans h3)
      exact ⟨c2, f2, by rw [← e1]; exact f3⟩
  obtain ⟨t0, f2, f3⟩ := hca
  intro T hT X
  obtain ⟨vm', X', st⟩ := X.instanceofYes hx hown (hts _ hw) (by rw [hT]; exact h1) h2 f2 f3 (g := F0 m pc ls (.ref (G.2.2.2 + a.toNat) :: r.map (rv G.2.2.2))) rfl rfl (by rw [hb]; exact hd)
  obtain ⟨t, a1, b1⟩ := k0 (T.setVm vm') hT X'
  exact ⟨t, st t a1, b1⟩
theorem x_instNo {a : Int} {ci idx : Nat} {nm : String} (hd : decode mi.2.1 pc = .ok (.instanceof idx, 3)) (hk : K a = (0, ci)) (hc : CL ci) (hw : Cond.classLink mi.2.2.1 idx nm ∈ mw_tbl) (hok : ((vC ci).1, nm) ∈ ncl) (kk : MW G mi R Z cs (pc + 3) lc ((0, 0) :: r) n K M) : MW G mi R Z cs pc lc ((1, a) :: r) n K M := by
  intro p e s m args below meth c H locs ls cx hr hs0 hl hlo hso
  obtain ⟨hx, hb, hml, hown, hts, hlk, hret, hnm, hK, hbs⟩ := id cx
  have ha : 0 ≤ a := (hr.cell (a := a) (by rw [hk]; simp)).1
  have k0 := kk p e s m args below meth c H locs ls cx hr hs0 hl hlo (List.forall_mem_cons.mpr ⟨show inR 0 from ⟨by omega, by omega⟩, (List.forall_mem_cons.mp hso).2⟩)
  rw [List.map_cons, rv_r ha]
  exact va_instNo hx hb hown (hts _ hw) (hK.2.1 _ hok) (mrecv hr hK hk hc) hd k0
theorem x_acmp_ne {x y : Int} {off : Int} {tgt : Nat} (hd : decode mi.2.1 pc = .ok (.if_acmp .ne off, 3)) (hxm : -1 ≤ x) (hym : -1 ≤ y) (ht : (pc : Int) + off = (tgt : Int)) (kt : x ≠ y → MW G mi R Z cs tgt lc r n K M) (kf : x = y → MW G mi R Z cs (pc + 3) lc r n K M) : MW G mi R Z cs pc lc ((1, y) :: (1, x) :: r) n K M := by
  intro p e s m args below meth c H locs ls cx hr hs0 hl hlo hso
  obtain ⟨hx, hb, hml, hown, hts, hlk, hret, hnm, hK, hbs⟩ := id cx
  have hso' := (List.forall_mem_cons.mp (List.forall_mem_cons.mp hso).2).2
  rw [List.map_cons, List.map_cons, ← va_rf_rf, ← va_rf_rf]
  have hiff : rf G.2.2.2 x = rf G.2.2.2 y ↔ x = y := by
    unfold rf
    constructor
    · intro h
      split at h <;> split at h
      · omega
      · cases h
      · cases h
      · have := Option.some.inj h; omega
    · intro h; rw [h]
  exact lv_acmp_ne (tgt := tgt) hx hb hd ht (fun q => kt (fun z => q (hiff.mpr z)) p e s m args below meth c H locs ls cx hr hs0 hl hlo hso') (fun q => kf (hiff.mp q) p e s m args below meth c H locs ls cx hr hs0 hl hlo hso')
theorem x_ldc {idx : Nat} {v : Int} (hd : decode mi.2.1 pc = .ok (.ldc idx, 2)) (hv : inR v) (hw : Cond.constant mi.2.2.1 idx (Int32.ofInt v) ∈ mw_tbl) (kk : MW G mi R Z cs (pc + 2) lc ((0, v) :: r) n K M) : MW G mi R Z cs pc lc r n K M := by
  intro p e s m args below meth c H locs ls cx hr hs0 hl hlo hso
  obtain ⟨hx, hb, hml, hown, hts, hlk, hret, hnm, hK, hbs⟩ := id cx
  exact lv_ldc hx hb hown (hts _ hw) hd (kk p e s m args below meth c H locs ls cx hr hs0 hl hlo (List.forall_mem_cons.mpr ⟨hv, hso⟩))
theorem x_ldcw {idx : Nat} {v : Int} (hd : decode mi.2.1 pc = .ok (.ldc_w idx, 3)) (hv : inR v) (hw : Cond.constant mi.2.2.1 idx (Int32.ofInt v) ∈ mw_tbl) (kk : MW G mi R Z cs (pc + 3) lc ((0, v) :: r) n K M) : MW G mi R Z cs pc lc r n K M := by
  intro p e s m args below meth c H locs ls cx hr hs0 hl hlo hso
  obtain ⟨hx, hb, hml, hown, hts, hlk, hret, hnm, hK, hbs⟩ := id cx
  exact lv_ldcw hx hb hown (hts _ hw) hd (kk p e s m args below meth c H locs ls cx hr hs0 hl hlo (List.forall_mem_cons.mpr ⟨hv, hso⟩))
theorem x_ldc2 {idx : Nat} {v : Int} (hd : decode mi.2.1 pc = .ok (.ldc2_w idx, 3)) (hv : inL v) (hw : Cond.constantLong mi.2.2.1 idx (Int64.ofInt v) ∈ mw_tbl) (kk : MW G mi R Z cs (pc + 3) lc ((2, v) :: r) n K M) : MW G mi R Z cs pc lc r n K M := by
  intro p e s m args below meth c H locs ls cx hr hs0 hl hlo hso
  obtain ⟨hx, hb, hml, hown, hts, hlk, hret, hnm, hK, hbs⟩ := id cx
  exact lv_ldc2 hx hb hown (hts _ hw) hd (kk p e s m args below meth c H locs ls cx hr hs0 hl hlo (List.forall_mem_cons.mpr ⟨hv, hso⟩))
theorem x_objInit {idx : Nat} {a : Int} (hd : decode mi.2.1 pc = .ok (.invokespecial idx, 3)) (ha : 0 ≤ a) (hcat : (r.map catV).sum ≤ 8) (hfit : 1 ≤ R.frames ∧ 64 ≤ R.locals) (hlink : Cond.methodLink mi.2.2.1 idx Lib.objectInit ∈ mw_tbl) (hinst : Cond.instanceMethod Lib.objectInit ∈ mw_tbl) (hcode : Cond.code Lib.objectInit ⟨#[0xb1]⟩ 1 none ∈ mw_tbl) (kk : MW G mi R Z cs (pc + 3) lc r n K M) : MW G mi R Z cs pc lc ((1, a) :: r) n K M := by
  intro p e s m args below meth c H locs ls cx hr hs0 hl hlo hso
  obtain ⟨hx, hb, hml, hown, hts, hlk, hret, hnm, hK, hbs⟩ := id cx
  have k0 := kk p e s m args below meth c H locs ls cx hr hs0 hl hlo (List.forall_mem_cons.mp hso).2
  rw [List.map_cons, rv_r ha]
  refine W.objInit hx hb hown (hts _ hlink) (hts _ hinst) (hts _ hcode) rfl (hl.1.trans hml.symm) rfl hd hfit.1 ?_ k0
  have := lv_room (m := m) (pc := pc) (ls := ls) (rest := r.map (rv G.2.2.2)) (st := r.map (rv G.2.2.2)) (by rw [cat_sum]; exact hcat)
  have := hfit.2
  show 2 * (F0 m pc ls (r.map (rv G.2.2.2))).monitorRoom + _ + 12 ≤ _
  omega
end MWN
theorem cd_0 : CD 0 := by unfold CD; decide +kernel
theorem cd_1 : CD 1 := by unfold CD; decide +kernel
theorem cd_2 : CD 2 := by unfold CD; decide +kernel
theorem cd_3 : CD 3 := by unfold CD; decide +kernel
theorem cd_4 : CD 4 := by unfold CD; decide +kernel
theorem cd_5 : CD 5 := by unfold CD; decide +kernel
theorem cd_6 : CD 6 := by unfold CD; decide +kernel
theorem cd_7 : CD 7 := by unfold CD; decide +kernel
theorem cd_8 : CD 8 := by unfold CD; decide +kernel
theorem cd_9 : CD 9 := by unfold CD; decide +kernel
theorem cd_10 : CD 10 := by unfold CD; decide +kernel
theorem cd_11 : CD 11 := by unfold CD; decide +kernel
theorem cd_12 : CD 12 := by unfold CD; decide +kernel
