/-! ===== the small machine: contracts, calls, answers ===== -/
abbrev QQ : Type := Option VV → Nat → KK → MM → Prop
def rmd (d mc ms : Nat) : Room := { frames := d, cells := mc, slots := ms, locals := 64 * d }
def mws (mi : MI) : List Cond := .code mi.1 mi.2.1 mi.2.2.2.1 mi.2.2.2.2 :: mw_tbl
def QC (G : GG) (Q : QQ) : Array Value → State → Outcome → State → Prop := fun _ st o t =>
  (∃ (rr : Option VV) (n' : Nat) (K' : KK) (M' : MM), o = .returned (rr.map (rv G.2.2.2)) ∧ (∀ v, rr = some v → okV v) ∧ Q rr n' K' M' ∧ HR G n' K' M' t.heap) ∧ va_F (mw_own G) st t
def PCn (G : GG) (av : List VV) (n : Nat) (K : KK) (M : MM) : Array Value → State → Prop := va_Pc (av.map (rv G.2.2.2)) (fun U => HR G n K M U.heap ∧ KX G U)
/-- a contract: called with av over this heap, the method answers with Q -/
def MC (G : GG) (mi : MI) (d mc ms : Nat) (av : List VV) (n : Nat) (K : KK) (M : MM) (Q : QQ) : Prop :=
  (∀ v ∈ av, okV v) → (∀ a k, inR (M a k)) → Met G.1 mi.1 (mws mi) (rmd d mc ms) (PCn G av n K M) (QC G Q) mc ms (mw_own G)
def MZ (G : GG) (Q : QQ) (mc ms : Nat) : ZZ := fun below args s => MQ below (QC G Q) args s mc ms (mw_own G)
def lgs : Nat → List VV → LL
  | _, [] => []
  | i, v :: vs => (i, v) :: lgs (i + 1) vs
theorem lgs_rL (b : Nat) : ∀ (av : List VV) (i : Nat), (∀ v ∈ av, Nat.ble 2 v.1 = false) → lv_args i (av.map (rv b)) = rL b (lgs i av) := by
  intro av
  induction av with
  | nil => intro i _; rfl
  | cons v vs ih =>
    intro i h
    have h1 := (List.forall_mem_cons.mp h).1
    show (i, rv b v) :: lv_args (if (rv b v).category = 2 then i + 2 else i + 1) (vs.map (rv b)) = (i, rv b v) :: rL b (lgs (i + 1) vs)
    rw [if_neg (by rw [rv_c1 h1]; decide), ih (i + 1) (List.forall_mem_cons.mp h).2]
theorem lgs_ok : ∀ (av : List VV) (i : Nat), (∀ v ∈ av, okV v) → ∀ q ∈ lgs i av, okV q.2 := by
  intro av
  induction av with
  | nil => intro i _ q hq; cases hq
  | cons v vs ih =>
    intro i h q hq
    rcases List.mem_cons.mp hq with rfl | hq
    · exact (List.forall_mem_cons.mp h).1
    · exact ih (i + 1) (List.forall_mem_cons.mp h).2 q hq
theorem lgsl_len (b : Nat) : ∀ (av : List VV), (∀ v ∈ av, Nat.ble 2 v.1 = false) → (lg_sl (av.map (rv b))).length = av.length := by
  intro av
  induction av with
  | nil => intro _; rfl
  | cons v vs ih =>
    intro h
    have h1 := (List.forall_mem_cons.mp h).1
    have h2 : lg_sl ((v :: vs).map (rv b)) = (if (rv b v).category = 2 then [.val (rv b v), .second] else [.val (rv b v)]) ++ lg_sl (vs.map (rv b)) := rfl
    rw [h2, if_neg (by rw [rv_c1 h1]; decide), List.length_append, ih (List.forall_mem_cons.mp h).2]
    simp; omega
theorem MC.intro {G : GG} {mi : MI} {d mc ms : Nat} {av : List VV} {n : Nat} {K : KK} {M : MM} {Q : QQ} {lc : LL} (hpl : plainName mi.1.cls = true) (hoc : mi.1.cls = mi.2.2.1) (hcat : ∀ v ∈ av, Nat.ble 2 v.1 = false) (hln : av.length ≤ mi.2.2.2.1) (hlc : lgs 0 av = lc)
    (h : (∀ a k, inR (M a k)) → MW G mi (rmd d mc ms) (MZ G Q mc ms) (0, 0) 0 lc [] n K M) : MC G mi d mc ms av n K M Q := by
  intro hok hMR
  refine Met.ofW (cc := mi.2.1) (maxL := mi.2.2.2.1) (ret := mi.2.2.2.2) (ws' := mw_tbl) hpl rfl ?_
  intro p e s m args below meth c s₁ B hml hv
  obtain ⟨rfl, hHR, hKX⟩ := hv
  have hts0 := atoms_spec (ws := mws mi) B.pre
  have hown : s.vm.findClass mi.1.cls = some m.cls := findClass_of_methodNamed B.named
  have hnm : meth.name = mi.1.name := (name_of_methodNamed B.named B.method).1
  rw [lg_entry_eq]
  have hl := lv_entry (av.map (rv G.2.2.2)) (n := mi.2.2.2.1) (by rw [lgsl_len _ _ hcat]; exact hln)
  rw [lgs_rL _ _ 0 hcat, hlc] at hl
  exact h hMR p e s m _ below meth c s.heap [] _ ⟨B.exec, B.bytes, hml, hoc ▸ hown, fun w hw => hts0 w (List.mem_cons_of_mem _ hw), B.notSynchronized, B.returns, hnm, hKX, by rw [hHR.1]; omega⟩ hHR va_S.rf hl (by rw [← hlc]; exact lgs_ok av 0 hok) (fun v h => by cases h)
section MWR
variable {G : GG} {mi : MI} {R : Room} {Z : ZZ} {cs : Nat × Nat} {pc : Nat} {lc : LL} {r : List VV} {n : Nat} {K : KK} {M : MM} {Q : QQ}
/-- fewer listed locals, in any order -/
theorem MW.sub {lc' : LL} (ks : List Nat) (h : ks.filterMap (fun k => lc[k]?) = lc') (kk : MW G mi R Z cs pc lc' r n K M) : MW G mi R Z cs pc lc r n K M := by
  intro p e s m args below meth c H locs ls cx hr hs hl hlo hso
  have hm : ∀ q ∈ lc', q ∈ lc := by
    intro q hq
    rw [← h] at hq
    obtain ⟨k, -, hk⟩ := List.mem_filterMap.mp hq
    exact List.mem_of_getElem? hk
  refine kk p e s m args below meth c H locs ls cx hr hs ⟨hl.1, hl.2.1, fun q hq => ?_⟩ (fun q hq => hlo q (hm q hq)) hso
  obtain ⟨q0, h0, rfl⟩ := List.mem_map.mp hq
  exact hl.2.2 _ (List.mem_map.mpr ⟨q0, hm q0 h0, rfl⟩)
theorem MW.fact (h : (∀ a k, inR (M a k)) → (∀ q ∈ lc, okV q.2) → (∀ v ∈ r, okV v) → MW G mi R Z cs pc lc r n K M) : MW G mi R Z cs pc lc r n K M := fun p e s m args below meth c H locs ls cx hr hs hl hlo hso => h hr.2.1 hlo hso p e s m args below meth c H locs ls cx hr hs hl hlo hso
theorem x_iret {x : Int} (hd : decode mi.2.1 pc = .ok (.ireturn, 1)) (hrt : mi.2.2.2.2 = some .int) (hq : Q (some (0, x)) n K M) : MW G mi R (MZ G Q cs.1 cs.2) cs pc lc [(0, x)] n K M := by
  intro p e s m args below meth c H locs ls cx hr hs hl hlo hso
  obtain ⟨hx, hb, hml, hown, hts, hlk, hret, hnm, hK, hbs⟩ := id cx
  exact W.iret hx hb (hret.trans hrt) (fun t ht _ => ⟨⟨some (0, x), n, K, M, rfl, fun v hv => by cases hv; exact (List.forall_mem_cons.mp hso).1, hq, by rw [ht]; exact hr⟩, hs.F ht⟩) (fun q hq => hs.2.2 q hq) hd
theorem x_zret {x : Int} (hd : decode mi.2.1 pc = .ok (.ireturn, 1)) (hrt : mi.2.2.2.2 = some .boolean) (hz : x = 0 ∨ x = 1) (hq : Q (some (0, x)) n K M) : MW G mi R (MZ G Q cs.1 cs.2) cs pc lc [(0, x)] n K M := by
  intro p e s m args below meth c H locs ls cx hr hs hl hlo hso
  obtain ⟨hx, hb, hml, hown, hts, hlk, hret, hnm, hK, hbs⟩ := id cx
  exact W.zret hx hb (hret.trans hrt) (by rcases hz with rfl | rfl <;> rfl) (fun t ht _ => ⟨⟨some (0, x), n, K, M, rfl, fun v hv => by cases hv; exact (List.forall_mem_cons.mp hso).1, hq, by rw [ht]; exact hr⟩, hs.F ht⟩) (fun q hq => hs.2.2 q hq) hd
theorem x_lret {x : Int} (hd : decode mi.2.1 pc = .ok (.lreturn, 1)) (hrt : mi.2.2.2.2 = some .long) (hq : Q (some (2, x)) n K M) : MW G mi R (MZ G Q cs.1 cs.2) cs pc lc [(2, x)] n K M := by
  intro p e s m args below meth c H locs ls cx hr hs hl hlo hso
  obtain ⟨hx, hb, hml, hown, hts, hlk, hret, hnm, hK, hbs⟩ := id cx
  exact W.lret hx hb (hret.trans hrt) (fun t ht _ => ⟨⟨some (2, x), n, K, M, rfl, fun v hv => by cases hv; exact (List.forall_mem_cons.mp hso).1, hq, by rw [ht]; exact hr⟩, hs.F ht⟩) (fun q hq => hs.2.2 q hq) hd
theorem x_vret (hd : decode mi.2.1 pc = .ok (.return_, 1)) (hrt : mi.2.2.2.2 = none) (hq : Q none n K M) : MW G mi R (MZ G Q cs.1 cs.2) cs pc lc [] n K M := by
  intro p e s m args below meth c H locs ls cx hr hs hl hlo hso
  obtain ⟨hx, hb, hml, hown, hts, hlk, hret, hnm, hK, hbs⟩ := id cx
  exact W.vret hx hb (hret.trans hrt) (fun t ht _ => ⟨⟨none, n, K, M, rfl, fun v hv => (by cases hv), hq, by rw [ht]; exact hr⟩, hs.F ht⟩) (fun q hq => hs.2.2 q hq) hd
theorem x_aret {x : Int} {C : String} (hd : decode mi.2.1 pc = .ok (.areturn, 1)) (hrt : mi.2.2.2.2 = some (.object C)) (hq : Q (some (1, x)) n K M) : MW G mi R (MZ G Q cs.1 cs.2) cs pc lc [(1, x)] n K M := by
  intro p e s m args below meth c H locs ls cx hr hs hl hlo hso
  obtain ⟨hx, hb, hml, hown, hts, hlk, hret, hnm, hK, hbs⟩ := id cx
  refine W.aret (rt := .object C) hx hb (hret.trans hrt) (Or.inl ⟨_, rfl⟩) ?_ (fun t ht _ => ⟨⟨some (1, x), n, K, M, rfl, fun v hv => by cases hv; exact (List.forall_mem_cons.mp hso).1, hq, by rw [ht]; exact hr⟩, hs.F ht⟩) (fun q hq => hs.2.2 q hq) hd
  by_cases h : x < 0
  · exact Or.inl (rv_n h)
  · exact Or.inr ⟨_, rv_r (by omega)⟩
/-- what a method's return leaves free of its room -/
theorem MW.widen {k1 k2 : Nat} (h1 : cs.1 ≤ k1) (h2 : cs.2 ≤ k2) (kk : MW G mi R Z (k1, k2) pc lc r n K M) : MW G mi R Z cs pc lc r n K M := fun p e s m args below meth c H locs ls cx hr hs hl hlo hso => W.widen h1 h2 (kk p e s m args below meth c H locs ls cx hr hs hl hlo hso)
/-- behind a call -/
theorem W_call {p : Program} {e : Env} {s : State} {m : MethodId} {args : Array Value} {below : List Frame} {meth : Method} {c : Code} {H : Heap} {locs : List Loc} {cells slots mc ms : Nat} {Zw : State → Prop} {ls : Array Slot} {st0 rest : List Value} {a : Array Value}
    (run : va_Run p G.1 e R s m args below meth c H locs cells slots mc ms (F0 m pc ls st0) rest (QC G Q a) (mw_own G)) (hS : va_S (mw_own G) s.heap H locs)
    (kk : ∀ (rr : Option VV) (n' : Nat) (K' : KK) (M' : MM) (H1 : Heap) (locs1 : List Loc), Q rr n' K' M' → (∀ v, rr = some v → okV v) → HR G n' K' M' H1 → va_S (mw_own G) s.heap H1 locs1 → W p G.1 e R s m args below meth c H1 locs1 (cells + mc) (slots + ms) Zw (F0 m (pc + 3) ls ((rr.map (rv G.2.2.2)).toList ++ rest))) : W p G.1 e R s m args below meth c H locs cells slots Zw (F0 m pc ls st0) := by
  intro T hT X
  obtain ⟨v, st₀, t, T', L, h0, X', hL, e1, e2, ⟨⟨rr, n', K', M', hv, hok, hq, hHR⟩, hz, hk⟩, st⟩ := run T hT X
  have hv' : v = rr.map (rv G.2.2.2) := Outcome.returned.inj hv
  subst hv'
  rw [h0] at hz hk
  obtain ⟨t2, a1, b1⟩ := kk rr n' K' M' T'.heap (locs ++ L) hq hok (by rw [e1]; exact hHR)
    ⟨Nat.le_trans hS.1 (by rw [e1]; exact hz), fun q h1 h2 => by rw [e1, hk q (Nat.lt_of_lt_of_le h1 hS.1) h2]; exact hS.2.1 q h1 h2, fun q hq => by
      rcases List.mem_append.mp hq with h | h
      · exact hS.2.2 q h
      · exact hL q h⟩ T' rfl X'
  exact ⟨t2, st t2 a1, b1⟩
theorem tbl_good : mw_tbl.all goodWord = true := by decide +kernel
theorem mws_good {cm : MI} (hcode : Cond.code cm.1 cm.2.1 cm.2.2.2.1 cm.2.2.2.2 ∈ mw_tbl) : GoodIn mw_tbl (mws cm) := by
  intro w hw
  have hm : w ∈ mw_tbl := by
    rcases List.mem_cons.mp hw with rfl | h
    · exact hcode
    · exact h
  exact ⟨hm, good_of_word (List.all_eq_true.mp tbl_good w hm)⟩
/-- room for a call: frames, locals, cells, slots -/
def Fit (R : Room) (cs : Nat × Nat) (cm : MI) (d mc ms : Nat) : Prop := d + 1 ≤ R.frames ∧ 64 * d + 64 ≤ R.locals ∧ cm.2.2.2.1 ≤ 45 ∧ cs.1 + mc ≤ R.cells ∧ cs.2 + ms ≤ R.slots
/-- what a callee's name must keep -/
def Nm (y : MethodName) (k : Nat) : Prop := y.cls ≠ "java/lang/invoke/MethodHandle" ∧ y.cls ≠ "java/lang/invoke/VarHandle" ∧ (parseMethodDescriptor y.desc).map (fun d => d.parameters.length) = some k
theorem PCn_blind {av : List VV} : FrameBlind (PCn G av n K M) := by
  intro a U g mk h
  obtain ⟨h1, h2, h3⟩ := h
  exact ⟨h1, h2, KX.moved (u := U) (U := U.calling g mk a) (Vm.Alike.refl U.vm) h3⟩
def catV (v : VV) : Nat := bif Nat.ble 2 v.1 then 2 else 1
theorem cat_rv (b : Nat) (v : VV) : (rv b v).category = catV v := by
  unfold catV
  cases h : Nat.ble 2 v.1 with
  | false => exact rv_c1 h
  | true =>
    have h1 := rv_cat b v
    rw [h] at h1
    simpa using h1
theorem cat_sum (b : Nat) : ∀ r : List VV, ((r.map (rv b)).map fun v => v.category).sum = (r.map catV).sum := by
  intro r
  induction r with
  | nil => rfl
  | cons v vs ih => simp only [List.map_cons, List.sum_cons, ih, cat_rv]
theorem ok_split {av : List VV} (h : ∀ v ∈ av.reverse ++ r, okV v) : (∀ v ∈ av, okV v) ∧ ∀ v ∈ r, okV v := ⟨fun v hv => h v (List.mem_append_left _ (List.mem_reverse.mpr hv)), fun v hv => h v (List.mem_append_right _ hv)⟩
theorem x_callS {cm : MI} {av st : List VV} {idx d mc ms : Nat} (hd : decode mi.2.1 pc = .ok (.invokestatic idx, 3)) (hM : MC G cm d mc ms av n K M Q) (hst : st = av.reverse ++ r) (hfit : Fit R cs cm d mc ms) (hcat : (r.map catV).sum ≤ 8) (hnm : Nm cm.1 av.length) (hcode : Cond.code cm.1 cm.2.1 cm.2.2.2.1 cm.2.2.2.2 ∈ mw_tbl) (hlink : Cond.methodLink mi.2.2.1 idx cm.1 ∈ mw_tbl) (hini : Cond.initialized cm.1.cls ∈ mw_tbl) (hstat : Cond.static cm.1 ∈ mw_tbl)
    (kk : ∀ (rr : Option VV) (n' : Nat) (K' : KK) (M' : MM), Q rr n' K' M' → MW G mi R Z (cs.1 + mc, cs.2 + ms) (pc + 3) lc (rr.toList ++ r) n' K' M') : MW G mi R Z cs pc lc st n K M := by
  intro p e s m args below meth c H locs ls cx hr hs hl hlo hso
  obtain ⟨hx, hb, hml, hown, hts, hlk, hret, hnm', hK, hbs⟩ := id cx
  subst hst
  obtain ⟨hav, hrok⟩ := ok_split hso
  refine W_call (va_runS (As := av.map (rv G.2.2.2)) (rest := r.map (rv G.2.2.2)) ⟨hx, hb, hml, hown, hts⟩ (hM hav hr.2.1) ⟨callB_of av.length hts (mws_good hcode) rfl rfl rfl (hts _ hini) (hts _ hlink) hnm ⟨hfit.1, ?_⟩, hts _ hstat⟩ ⟨PCn_blind, fun U hU hW => ⟨rfl, by rw [hU]; exact hr, KX.moved hW.alike hK⟩⟩ rfl (by rw [List.length_map]) hl.1 (by show List.map _ _ = _; rw [List.map_append, List.map_reverse]) (lv_room (by rw [cat_sum]; exact hcat)) hd ⟨hfit.2.2.2.1, hfit.2.2.2.2⟩) hs ?_
  · show 8 + (cm.2.2.2.1 + 11) + 64 * d ≤ _
    have := hfit.2.1; have := hfit.2.2.1; omega
  · intro rr n' K' M' H1 locs1 hq hok hHR hs1
    have k0 := kk rr n' K' M' hq p e s m args below meth c H1 locs1 ls cx hHR hs1 hl hlo (fun v hv => by
      rcases List.mem_append.mp hv with h | h
      · cases rr with
        | none => cases h
        | some x => exact hok v (by rw [List.mem_singleton.mp h])
      · exact hrok v h)
    rw [List.map_append] at k0
    cases rr with
    | none => exact k0
    | some x => exact k0
/-- what the callers of an object's method know of its class -/
theorem mrecv {a : Int} {ci : Nat} {H : Heap} {s : State} (hr : HR G n K M H) (hK : KX G s) (hk : K a = (0, ci)) (hc : CL ci) : ∃ cell : Cell, H[G.2.2.2 + a.toNat]? = some cell ∧ cell.vm.isStatics = false ∧ s.vm.findClass (vC ci).1 = some cell.cls := by
  obtain ⟨ha, hn, hat⟩ := hr.cell (a := a) (by rw [hk]; simp)
  rw [cE_obj hk] at hat
  exact va_recv hK.1 (va_P1 hat) hc.1 (q0 := 0) rfl
theorem x_callV {cm : MI} {av st : List VV} {idx d mc ms ci : Nat} {a : Int} (hd : decode mi.2.1 pc = .ok (.invokevirtual idx, 3)) (hM : MC G cm d mc ms ((1, a) :: av) n K M Q) (hst : st = av.reverse ++ (1, a) :: r) (hk : K a = (0, ci)) (hc : CL ci) (hci : (vC ci).1 = cm.1.cls) (hfit : Fit R cs cm d mc ms) (hcat : (r.map catV).sum ≤ 8) (hnm : Nm cm.1 av.length) (hcode : Cond.code cm.1 cm.2.1 cm.2.2.2.1 cm.2.2.2.2 ∈ mw_tbl) (hlink : Cond.methodLink mi.2.2.1 idx cm.1 ∈ mw_tbl) (hini : Cond.initialized cm.1.cls ∈ mw_tbl) (hinst : Cond.instanceMethod cm.1 ∈ mw_tbl) (hsel : Cond.selects cm.1.cls cm.1 cm.1 ∈ mw_tbl)
    (kk : ∀ (rr : Option VV) (n' : Nat) (K' : KK) (M' : MM), Q rr n' K' M' → MW G mi R Z (cs.1 + mc, cs.2 + ms) (pc + 3) lc (rr.toList ++ r) n' K' M') : MW G mi R Z cs pc lc st n K M := by
  intro p e s m args below meth c H locs ls cx hr hs hl hlo hso
  obtain ⟨hx, hb, hml, hown, hts, hlk, hret, hnm', hK, hbs⟩ := id cx
  subst hst
  obtain ⟨hav, hrok0⟩ := ok_split hso
  have hrok := (List.forall_mem_cons.mp hrok0).2
  have ha : 0 ≤ a := (hr.cell (a := a) (by rw [hk]; simp)).1
  refine W_call (va_runV (C := cm.1.cls) (b := G.2.2.2 + a.toNat) (As := av.map (rv G.2.2.2)) (rest := r.map (rv G.2.2.2)) ⟨hx, hb, hml, hown, hts⟩ (hM (List.forall_mem_cons.mpr ⟨(List.forall_mem_cons.mp hrok0).1, hav⟩) hr.2.1) ⟨callB_of av.length hts (mws_good hcode) rfl rfl rfl (hts _ hini) (hts _ hlink) hnm ⟨hfit.1, ?_⟩, hts _ hinst, hts _ hsel⟩ ⟨PCn_blind, hci ▸ mrecv hr hK hk hc, fun U hU hW => ⟨by rw [List.map_cons, rv_r ha], by rw [hU]; exact hr, KX.moved hW.alike hK⟩⟩ rfl (by rw [List.length_map]) hl.1 (by show List.map _ _ = _; rw [List.map_append, List.map_reverse, List.map_cons, rv_r ha]) (lv_room (by rw [cat_sum]; exact hcat)) hd ⟨hfit.2.2.2.1, hfit.2.2.2.2⟩) hs ?_
  · show 8 + (cm.2.2.2.1 + 11) + 64 * d ≤ _
    have := hfit.2.1; have := hfit.2.2.1; omega
  · intro rr n' K' M' H1 locs1 hq hok hHR hs1
    have k0 := kk rr n' K' M' hq p e s m args below meth c H1 locs1 ls cx hHR hs1 hl hlo (fun v hv => by
      rcases List.mem_append.mp hv with h | h
      · cases rr with
        | none => cases h
        | some x => exact hok v (by rw [List.mem_singleton.mp h])
      · exact hrok v h)
    rw [List.map_append] at k0
    cases rr with
    | none => exact k0
    | some x => exact k0
/-- a method found by the receiver's class: x is what the instruction names, declared by owner, y what runs -/
theorem x_callU {cm : MI} {av st : List VV} {idx d mc ms ci m0 : Nat} {a : Int} {x : MethodName} {owner : String} {b0 : ByteArray} {r0 : Option FieldType} (hd : decode mi.2.1 pc = .ok (.invokevirtual idx, 3)) (hM : MC G cm d mc ms ((1, a) :: av) n K M Q) (hst : st = av.reverse ++ (1, a) :: r) (hk : K a = (0, ci)) (hc : CL ci) (hfit : Fit R cs cm d mc ms) (hcat : (r.map catV).sum ≤ 8) (hnm : owner ≠ "java/lang/invoke/MethodHandle" ∧ owner ≠ "java/lang/invoke/VarHandle" ∧ (parseMethodDescriptor x.desc).map (fun d => d.parameters.length) = some av.length) (hcode : Cond.code cm.1 cm.2.1 cm.2.2.2.1 cm.2.2.2.2 ∈ mw_tbl) (hlink : Cond.methodLink mi.2.2.1 idx x ∈ mw_tbl) (hsame : Cond.sameMethod x.cls owner x.name x.desc ∈ mw_tbl) (hi0 : Cond.instanceMethod ⟨owner, x.name, x.desc⟩ ∈ mw_tbl) (hc0 : Cond.code ⟨owner, x.name, x.desc⟩ b0 m0 r0 ∈ mw_tbl) (hsel : Cond.selects (vC ci).1 x cm.1 ∈ mw_tbl) (hinst : Cond.instanceMethod cm.1 ∈ mw_tbl) (hini : Cond.initialized cm.1.cls ∈ mw_tbl)
    (kk : ∀ (rr : Option VV) (n' : Nat) (K' : KK) (M' : MM), Q rr n' K' M' → MW G mi R Z (cs.1 + mc, cs.2 + ms) (pc + 3) lc (rr.toList ++ r) n' K' M') : MW G mi R Z cs pc lc st n K M := by
  intro p e s m args below meth c H locs ls cx hr hs hl hlo hso
  obtain ⟨hx, hb, hml, hown, hts, hlk, hret, hnm', hK, hbs⟩ := id cx
  subst hst
  obtain ⟨hav, hrok0⟩ := ok_split hso
  have hrok := (List.forall_mem_cons.mp hrok0).2
  have ha : 0 ≤ a := (hr.cell (a := a) (by rw [hk]; simp)).1
  have hG := mws_good hcode
  have good : ∀ w ∈ mw_tbl, w ∈ mw_tbl ∧ ((w.onTables && w.keeps) = true ∨ ∃ ty, w = .arrayClass ty) := fun w hw => ⟨hw, good_of_word (List.all_eq_true.mp tbl_good w hw)⟩
  have hT : GoodIn mw_tbl (va_wsO mi.2.2.1 idx (vC ci).1 owner x cm.1 (mws cm)) := by
    intro w hw
    unfold va_wsO at hw
    rcases List.mem_append.mp hw with h | h
    · simp only [List.mem_cons, List.not_mem_nil, or_false] at h
      rcases h with rfl | rfl | rfl | rfl | rfl | rfl
      · exact good _ hlink
      · exact good _ hsame
      · exact good _ hi0
      · exact good _ hsel
      · exact good _ hinst
      · exact good _ hini
    · exact hG w h
  have hroom : 8 + (cm.2.2.2.1 + 11) + 64 * d ≤ R.locals := by have := hfit.2.1; have := hfit.2.2.1; omega
  refine W_call (va_runU (C := (vC ci).1) (b := G.2.2.2 + a.toNat) (As := av.map (rv G.2.2.2)) (rest := r.map (rv G.2.2.2)) ⟨hx, hb, hml, hown, hts⟩ (hM (List.forall_mem_cons.mpr ⟨(List.forall_mem_cons.mp hrok0).1, hav⟩) hr.2.1) (va_cwO av.length hts hT rfl rfl rfl hc0 hnm ⟨hfit.1, hroom⟩) ⟨PCn_blind, mrecv hr hK hk hc, fun U hU hW => ⟨by rw [List.map_cons, rv_r ha], by rw [hU]; exact hr, KX.moved hW.alike hK⟩⟩ rfl (by rw [List.length_map]) hl.1 (by show List.map _ _ = _; rw [List.map_append, List.map_reverse, List.map_cons, rv_r ha]) (lv_room (by rw [cat_sum]; exact hcat)) hd ⟨hfit.2.2.2.1, hfit.2.2.2.2⟩) hs ?_
  intro rr n' K' M' H1 locs1 hq hok hHR hs1
  have k0 := kk rr n' K' M' hq p e s m args below meth c H1 locs1 ls cx hHR hs1 hl hlo (fun v hv => by
    rcases List.mem_append.mp hv with h | h
    · cases rr with
      | none => cases h
      | some x => exact hok v (by rw [List.mem_singleton.mp h])
    · exact hrok v h)
  rw [List.map_append] at k0
  cases rr with
  | none => exact k0
  | some x => exact k0
/-- a constructor -/
theorem x_callI {cm : MI} {av st : List VV} {idx d mc ms : Nat} {a : Int} (hd : decode mi.2.1 pc = .ok (.invokespecial idx, 3)) (hM : MC G cm d mc ms ((1, a) :: av) n K M Q) (hst : st = av.reverse ++ (1, a) :: r) (ha : 0 ≤ a) (hin : cm.1.name = "<init>") (hrn : cm.2.2.2.2 = none) (hfit : Fit R cs cm d mc ms) (hcat : (r.map catV).sum ≤ 8) (hnm : Nm cm.1 av.length) (hcode : Cond.code cm.1 cm.2.1 cm.2.2.2.1 cm.2.2.2.2 ∈ mw_tbl) (hlink : Cond.methodLink mi.2.2.1 idx cm.1 ∈ mw_tbl) (hini : Cond.initialized cm.1.cls ∈ mw_tbl) (hinst : Cond.instanceMethod cm.1 ∈ mw_tbl)
    (kk : ∀ (rr : Option VV) (n' : Nat) (K' : KK) (M' : MM), Q rr n' K' M' → MW G mi R Z (cs.1 + mc, cs.2 + ms) (pc + 3) lc (rr.toList ++ r) n' K' M') : MW G mi R Z cs pc lc st n K M := by
  intro p e s m args below meth c H locs ls cx hr hs hl hlo hso
  obtain ⟨hx, hb, hml, hown, hts, hlk, hret, hnm', hK, hbs⟩ := id cx
  subst hst
  obtain ⟨hav, hrok0⟩ := ok_split hso
  have hrok := (List.forall_mem_cons.mp hrok0).2
  refine W_call (va_runI (b := G.2.2.2 + a.toNat) (As := av.map (rv G.2.2.2)) (rest := r.map (rv G.2.2.2)) ⟨hx, hb, hml, hown, hts⟩ (hM (List.forall_mem_cons.mpr ⟨(List.forall_mem_cons.mp hrok0).1, hav⟩) hr.2.1) (cwI (bytes := cm.2.1) (maxL := cm.2.2.2.1) (ws' := mw_tbl) av.length hts (mws_good hcode) (by unfold mws; rw [hrn]) rfl rfl (hts _ hini) (hts _ hlink) (hts _ hinst) hin hnm ⟨hfit.1, ?_⟩) ⟨PCn_blind, fun U hU hW => ⟨by rw [List.map_cons, rv_r ha], by rw [hU]; exact hr, KX.moved hW.alike hK⟩⟩ rfl (by rw [List.length_map]) hl.1 (by show List.map _ _ = _; rw [List.map_append, List.map_reverse, List.map_cons, rv_r ha]) (lv_room (by rw [cat_sum]; exact hcat)) hd ⟨hfit.2.2.2.1, hfit.2.2.2.2⟩) hs ?_
  · show 8 + (cm.2.2.2.1 + 11) + 64 * d ≤ _
    have := hfit.2.1; have := hfit.2.2.1; omega
  · intro rr n' K' M' H1 locs1 hq hok hHR hs1
    have k0 := kk rr n' K' M' hq p e s m args below meth c H1 locs1 ls cx hHR hs1 hl hlo (fun v hv => by
      rcases List.mem_append.mp hv with h | h
      · cases rr with
        | none => cases h
        | some x => exact hok v (by rw [List.mem_singleton.mp h])
      · exact hrok v h)
    rw [List.map_append] at k0
    cases rr with
    | none => exact k0
    | some x => exact k0
end MWR
