/-! ===== super.m(..), where m is declared by the superclass or further up ===== -/
section SPC
variable {p : Program} {l : Launch} {e : Env} {R : Room} {s : State} {m : MethodId} {args : Array Value} {below : List Frame} {meth : Method} {c : Code} {H : Heap} {locs : List Loc} {cells slots : Nat}
theorem sp_sub {own x owner sup : String} {cm : ClassId} (hown : s.vm.findClass own = some cm) (h3 : (Cond.superclass own x).before args s = true) (h4 : (Cond.superclass owner sup).before args s = true) (hca : x = owner ∨ va_Ca x owner s) {co : ClassId} (hco : s.vm.findClass owner = some co) :
    ∃ (ps : ClassId) (dk : Class), s.vm.findClass x = some ps ∧ s.vm.classes[cm]? = some dk ∧ dk.super = some ps ∧ dk.isInterface = false ∧ s.vm.isSubclass ps co = true := by
  obtain ⟨ps, dk, kp, hps, hdk, hkp, hsuper, -, ho, hnid⟩ := Cond.superclass_spec hown h3
  obtain ⟨-, ko, -, -, hko, -, -, hoo, -, hni⟩ := Cond.superclass_spec hco h4
  refine ⟨ps, dk, hps, hdk, hsuper, hnid, ?_⟩
  rcases hca with rfl | ⟨c1, t1, f1, f2, f3⟩
  · have : ps = co := Option.some.inj (hps.symm.trans hco)
    rw [this]; simp [Vm.isSubclass, Vm.isSubclassAux]
  · have e1 : c1 = ps := Option.some.inj (f1.symm.trans hps)
    have e2 : t1 = co := Option.some.inj (f2.symm.trans hco)
    rw [e1, e2] at f3
    exact isSubclass_of_assignable hkp hko ho hoo hni f3
theorem sp_run {x : MethodName} {owner sup : String} {bytes cc : ByteArray} {maxL nL mc ms n index : Nat} {ret : Option FieldType} {ws : List Cond} {rm : Room} {Pc : Array Value → State → Prop} {Qc : Array Value → State → Outcome → State → Prop} {free : Addr → Prop} {Ts : List Cond} {own C : String} {cC : ClassId} {b : Addr} {As rest : List Value} {g : JFrame}
    (hat : ClassAt s C cC) (S : CallFix p m c cc nL s args Ts own) (hM : Met l ⟨owner, x.name, x.desc⟩ ws rm Pc Qc mc ms free) (hrm : rm.cells = mc ∧ rm.slots = ms ∧ rm.frames + 1 ≤ R.frames ∧ 8 + (maxL + 11) + rm.locals ≤ R.locals)
    (hws : ∀ w ∈ ws, ∀ (a' : Array Value) (U : State), s.WarmedH U.vm → w.before a' U = true) (hcw : Cond.code ⟨owner, x.name, x.desc⟩ bytes maxL ret ∈ ws)
    (h1 : (Cond.methodLink own index x).before args s = true) (h2 : (Cond.sameMethod x.cls owner x.name x.desc).before args s = true) (h3 : (Cond.superclass own x.cls).before args s = true) (h4 : (Cond.superclass owner sup).before args s = true) (hca : x.cls = owner ∨ va_Ca x.cls owner s)
    (h5 : (Cond.instanceMethod ⟨owner, x.name, x.desc⟩).before args s = true) (h6 : (Cond.initialized owner).before args s = true) (h7 : (Cond.code ⟨owner, x.name, x.desc⟩ bytes maxL ret).before args s = true) (hno : x.name ≠ "<init>") (hlen : (parseMethodDescriptor x.desc).map (fun d => d.parameters.length) = some n)
    (hp : PreV s H C b Pc As) (hg : g.method = m) (hn : As.length = n) (hsize : g.locals.size = nL) (hstack : g.stack = As.reverse ++ .ref b :: rest) (hW : 2 * g.monitorRoom + (rest.map fun v => v.category).sum ≤ 8) (hdg : decode cc g.pc = .ok (.invokespecial index, 3)) (hf : cells + mc ≤ R.cells ∧ slots + ms ≤ R.slots) :
    va_Run p l e R s m args below meth c H locs cells slots mc ms g rest (Qc (Value.ref b :: As).toArray) (free) := by
  obtain ⟨hrc, hrs, hfr, hlo⟩ := hrm
  have hK : Back l R p e below s args ⟨owner, x.name, x.desc⟩ 3 8 (PreOf R mc ms Pc) (PostOf Qc mc ms free) := back_of (bytes := bytes) (maxL := maxL) (ret := ret) hM hp.1 hrc hrs hfr hlo hws hcw (fun a' U hW => word_at hW (Or.inl (by first | rfl | simp [Cond.onTables, Cond.keeps, Cond.steady])) h6)
  obtain ⟨hx, hb, hml, ho, -⟩ := S
  obtain ⟨-, ⟨cellB, hcB, hoB, hclB⟩, hPc⟩ := hp
  obtain ⟨hfc, kB, hkB, -⟩ := hat
  cases hfc.symm.trans hclB
  obtain ⟨mk, methM, hnamed, hmethM, hstM, habM⟩ := Cond.instanceMethod_spec h5
  obtain ⟨methM', cM, hmethM', -, -, -, -, -, -, hsigM⟩ := Cond.code_spec hnamed h7
  cases hmethM.symm.trans hmethM'
  obtain ⟨ps, dk, hps, hdk, hsuper, hnid, hsub⟩ := sp_sub ho h3 h4 hca (findClass_of_methodNamed hnamed)
  have hln : As.length = methM.sig.parameters.length := by
    have hz := hlen
    rw [show parseMethodDescriptor x.desc = some methM.sig from hsigM] at hz
    rw [hn]; exact (Option.some.inj hz).symm
  intro T hT X
  obtain ⟨vm₁, X₁, hstep⟩ := X.invokespecialUp hx ho h1 h2 hnamed hmethM hstM habM hno hdk hnid hps hsuper hsub (a := b) (cell := cellB) (by rw [hT]; exact hcB)
    (fun z h => by rw [h] at hoB; cases hoB) hkB (g := g) hg (argsL := As) (rest := rest) hln hstack (by rw [hb]; exact hdg)
  obtain ⟨v, ⟨U', l2, c2, s2⟩, X', ⟨g', mk', t, L, e1, e2, hq, q1, hL, q2, q3⟩, hsteps⟩ := hK m meth c ⟨T.setVm vm₁, locs, cells, slots⟩ { g with stack := rest } (.invokespecial index) mk (Value.ref b :: As).toArray X₁ hg (hsize.trans hml.symm) (by rw [hb]; exact hdg) hW (X₁.named hnamed) ⟨hf.1, hf.2, hPc (T.setVm vm₁) hT X₁.warmed⟩
  dsimp only [Pt.U, Pt.locs, Pt.cells, Pt.slots] at X' e1 e2 q1 q2 q3 hsteps
  subst q1; subst q2; subst q3
  exact ⟨v, (T.setVm vm₁).calling g' mk' (Value.ref b :: As).toArray, t, U', L, hT, X', hL, e1, e2, hq, fun target h => hstep _ (by rw [doInvoke_state]; exact hsteps.trans h)⟩
end SPC
section SPR
variable {G : GG} {mi : MI} {R : Room} {Z : ZZ} {cs : Nat × Nat} {pc : Nat} {lc : LL} {r : List VV} {n : Nat} {K : KK} {M : MM} {Q : QQ}
/-- super.m(..) -/
theorem x_callSp {cm : MI} {av st : List VV} {idx d mc ms ci : Nat} {a : Int} {x : MethodName} {sup : String} (hd : decode mi.2.1 pc = .ok (.invokespecial idx, 3)) (hM : MC G cm d mc ms ((1, a) :: av) n K M Q) (hst : st = av.reverse ++ (1, a) :: r) (hk : K a = (0, ci)) (hc : CL ci) (hfit : Fit R cs cm d mc ms) (hcat : (r.map catV).sum ≤ 8)
    (hx : cm.1 = ⟨cm.1.cls, x.name, x.desc⟩) (hno : x.name ≠ "<init>") (hnp : (parseMethodDescriptor x.desc).map (fun d => d.parameters.length) = some av.length) (hcode : Cond.code cm.1 cm.2.1 cm.2.2.2.1 cm.2.2.2.2 ∈ mw_tbl) (hlink : Cond.methodLink mi.2.2.1 idx x ∈ mw_tbl) (hsame : Cond.sameMethod x.cls cm.1.cls x.name x.desc ∈ mw_tbl) (hsup : Cond.superclass mi.2.2.1 x.cls ∈ mw_tbl) (hsup2 : Cond.superclass cm.1.cls sup ∈ mw_tbl) (hca : x.cls = cm.1.cls ∨ (x.cls, cm.1.cls) ∈ cal) (hinst : Cond.instanceMethod cm.1 ∈ mw_tbl) (hini : Cond.initialized cm.1.cls ∈ mw_tbl)
    (kk : ∀ (rr : Option VV) (n' : Nat) (K' : KK) (M' : MM), Q rr n' K' M' → MW G mi R Z (cs.1 + mc, cs.2 + ms) (pc + 3) lc (rr.toList ++ r) n' K' M') : MW G mi R Z cs pc lc st n K M := by
  intro p e s m args below meth c H locs ls cx hr hs hl hlo hso
  obtain ⟨hxe, hb, hml, hown, hts, hlk, hret, hnm', hK, hbs⟩ := id cx
  subst hst
  obtain ⟨hav, hrok0⟩ := ok_split hso
  have hrok := (List.forall_mem_cons.mp hrok0).2
  have ha : 0 ≤ a := (hr.cell (a := a) (by rw [hk]; simp)).1
  have hG := mws_good hcode
  have hroom : 8 + (cm.2.2.2.1 + 11) + 64 * d ≤ R.locals := by have := hfit.2.1; have := hfit.2.2.1; omega
  have hcm : ∀ {P : MethodName → Prop}, P cm.1 → P ⟨cm.1.cls, x.name, x.desc⟩ := fun h => hx ▸ h
  have hca2 : x.cls = cm.1.cls ∨ va_Ca x.cls cm.1.cls s := by
    rcases hca with h | h
    · exact Or.inl h
    · exact Or.inr (hK.2.2.1 _ h)
  refine W_call (sp_run (x := x) (owner := cm.1.cls) (sup := sup) (bytes := cm.2.1) (maxL := cm.2.2.2.1) (ret := cm.2.2.2.2) (rm := rmd d mc ms) (ws := mws cm) (C := (vC ci).1) (b := G.2.2.2 + a.toNat) (As := av.map (rv G.2.2.2)) (rest := r.map (rv G.2.2.2)) (hK.1.1 ci _ hc.1).2 ⟨hxe, hb, hml, hown, hts⟩ (hcm (P := fun y => Met G.1 y (mws cm) (rmd d mc ms) (PCn G ((1, a) :: av) n K M) (QC G Q) mc ms (mw_own G)) (hM (List.forall_mem_cons.mpr ⟨(List.forall_mem_cons.mp hrok0).1, hav⟩) hr.2.1)) ⟨rfl, rfl, hfit.1, hroom⟩ (pay_in hts hG) (hcm (P := fun y => Cond.code y cm.2.1 cm.2.2.2.1 cm.2.2.2.2 ∈ mws cm) List.mem_cons_self) (hts _ hlink) (hts _ hsame) (hts _ hsup) (hts _ hsup2) hca2 (hts _ (hcm (P := fun y => Cond.instanceMethod y ∈ mw_tbl) hinst)) (hts _ hini) (hts _ (hcm (P := fun y => Cond.code y cm.2.1 cm.2.2.2.1 cm.2.2.2.2 ∈ mw_tbl) hcode)) hno hnp ⟨PCn_blind, mrecv hr hK hk hc, fun U hU hW => ⟨by rw [List.map_cons, rv_r ha], by rw [hU]; exact hr, KX.moved hW.alike hK⟩⟩ rfl (by rw [List.length_map]) hl.1 (by show List.map _ _ = _; rw [List.map_append, List.map_reverse, List.map_cons, rv_r ha]) (lv_room (by rw [cat_sum]; exact hcat)) hd ⟨hfit.2.2.2.1, hfit.2.2.2.2⟩) hs ?_
  intro rr n' K' M' H1 locs1 hq hok hHR hs1
  have k0 := kk rr n' K' M' hq p e s m args below meth c H1 locs1 ls cx hHR hs1 hl hlo (fun v hv => by
    rcases List.mem_append.mp hv with h | h
    · cases rr with
      | none => cases h
      | some x => exact hok v (by rw [List.mem_singleton.mp h])
    · exact hrok v h)
  rw [List.map_append] at k0
  cases rr with
  | none => exact k0
  | some x => exact k0
end SPR
