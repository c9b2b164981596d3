/-! ===== the class: its objects in the small machine ===== -/
def upS (m : Int) (d : Int → Int) (a : Int) : Int := mk m (fun b => rel d a b)
/-- an Order's object and its two rows -/
def OB (K : KK) (M : MM) (p : Int) (ci : Nat) (nm m : Int) (d : Int → Int) : Prop :=
  WF K M ∧ (K p = (0, ci) ∧ isO ci ∧ K (p + 1) = (1, 10) ∧ K (p + 2) = (1, 10)) ∧ 55 ≤ p ∧ (M p 0 = nm ∧ M p 1 = m ∧ M p 2 = p + 1 ∧ M p 3 = p + 2 ∧ M p 4 = prs m d) ∧ (∀ b, 0 ≤ b → b < 10 → M (p + 1) b = d b ∧ M (p + 2) b = upS m d b) ∧ OK m d
section OBA
variable {K : KK} {M : MM} {p : Int} {ci : Nat} {nm m : Int} {d : Int → Int}
theorem OB.wf (h : OB K M p ci nm m d) : WF K M := h.1
theorem OB.k (h : OB K M p ci nm m d) : K p = (0, ci) := h.2.1.1
theorem OB.c (h : OB K M p ci nm m d) : isO ci := h.2.1.2.1
theorem OB.kd (h : OB K M p ci nm m d) : K (p + 1) = (1, 10) := h.2.1.2.2.1
theorem OB.ku (h : OB K M p ci nm m d) : K (p + 2) = (1, 10) := h.2.1.2.2.2
theorem OB.ge (h : OB K M p ci nm m d) : 55 ≤ p := h.2.2.1
theorem OB.num (h : OB K M p ci nm m d) : M p 0 = nm := h.2.2.2.1.1
theorem OB.n (h : OB K M p ci nm m d) : M p 1 = m := h.2.2.2.1.2.1
theorem OB.dn (h : OB K M p ci nm m d) : M p 2 = p + 1 := h.2.2.2.1.2.2.1
theorem OB.upp (h : OB K M p ci nm m d) : M p 3 = p + 2 := h.2.2.2.1.2.2.2.1
theorem OB.pc (h : OB K M p ci nm m d) : M p 4 = prs m d := h.2.2.2.1.2.2.2.2
theorem OB.dat (h : OB K M p ci nm m d) {b : Int} (hb : 0 ≤ b ∧ b < 10) : M (p + 1) b = d b := (h.2.2.2.2.1 b hb.1 hb.2).1
theorem OB.uat (h : OB K M p ci nm m d) {b : Int} (hb : 0 ≤ b ∧ b < 10) : M (p + 2) b = upS m d b := (h.2.2.2.2.1 b hb.1 hb.2).2
theorem OB.ok (h : OB K M p ci nm m d) : OK m d := h.2.2.2.2.2
theorem OB.sz (h : OB K M p ci nm m d) : 0 ≤ m ∧ m ≤ 10 := h.ok.1
theorem OB.dnn (h : OB K M p ci nm m d) {b : Int} (hb : 0 ≤ b ∧ b < 10) : nn (d b) := h.ok.nn hb
theorem OB.unn (h : OB K M p ci nm m d) (b : Int) : nn (upS m d b) := mk_nn (by have := h.sz; omega) _
/-- the same cells, another memory -/
theorem OB.of {M1 : MM} (h : OB K M p ci nm m d) (hw : WF K M1) (h0 : M1 p = M p) (h1 : M1 (p + 1) = M (p + 1)) (h2 : M1 (p + 2) = M (p + 2)) : OB K M1 p ci nm m d := by
  refine ⟨hw, h.2.1, h.2.2.1, ?_, ?_, h.ok⟩
  · rw [h0]; exact h.2.2.2.1
  · rw [h1, h2]; exact h.2.2.2.2.1
end OBA
theorem bt_upS {m : Int} {d : Int → Int} (hm : m ≤ 10) {a b : Int} (hb : 0 ≤ b) : bt (upS m d a) b = (decide (b < m) && rel d a b) := bt_mk (by omega) _ hb
/-- the class's rows for answers alone: cells 9 .. 27, their fixed references kept -/
def sx (M M1 : MM) : Prop := (∀ x : Int, ¬ (9 ≤ x ∧ x ≤ 27) → M1 x = M x) ∧ ∀ q ∈ mfL, M1 q.1 q.2.1 = M q.1 q.2.1
theorem sx.rf {M : MM} : sx M M := ⟨fun _ _ => rfl, fun _ _ => rfl⟩
theorem sx.tr {M M1 M2 : MM} (h1 : sx M M1) (h2 : sx M1 M2) : sx M M2 := ⟨fun x hx => (h2.1 x hx).trans (h1.1 x hx), fun q hq => (h2.2 q hq).trans (h1.2 q hq)⟩
theorem sx.st {M M1 : MM} (a : Int) (ha : (decide (9 ≤ a) && decide (a ≤ 27) && nfa a) = true) (h : sx M M1) {k v : Int} : sx M (st2 M1 a k v) := by
  simp only [Bool.and_eq_true, decide_eq_true_eq] at ha
  refine ⟨fun x hx => by rw [st2_ne M1 (by omega)]; exact h.1 x hx, fun q hq => ?_⟩
  have hne : q.1 ≠ a := fun e => by
    have := List.all_eq_true.mp ha.2 q hq
    simp [e] at this
  rw [st2_ne M1 hne]
  exact h.2 q hq
theorem sx.sa {M M1 : MM} (a : Int) (ha : (decide (9 ≤ a) && decide (a ≤ 27) && nfa a) = true) (h : sx M M1) {f : Int → Int} : sx M (setA M1 a f) := by
  simp only [Bool.and_eq_true, decide_eq_true_eq] at ha
  refine ⟨fun x hx => by rw [setA_ne M1 (by omega)]; exact h.1 x hx, fun q hq => ?_⟩
  have hne : q.1 ≠ a := fun e => by
    have := List.all_eq_true.mp ha.2 q hq
    simp [e] at this
  rw [setA_ne M1 hne]
  exact h.2 q hq
theorem sx.fd {M M1 : MM} (a k : Int) (ha : (decide (9 ≤ a) && decide (a ≤ 27) && nfx a k) = true) (h : sx M M1) {v : Int} : sx M (st2 M1 a k v) := by
  simp only [Bool.and_eq_true, decide_eq_true_eq] at ha
  refine ⟨fun x hx => by rw [st2_ne M1 (by omega)]; exact h.1 x hx, fun q hq => ?_⟩
  rw [← h.2 q hq]
  unfold st2
  split
  · rename_i h1
    rw [if_neg]
    intro h2
    have := List.all_eq_true.mp ha.2 q hq
    simp [h1, h2] at this
  · rfl
theorem WF.off_sx {K : KK} {M M1 : MM} (h : WF K M) (hs : sx M M1) : WF K M1 := h.of hs.2
theorem OB.off_sx {K : KK} {M M1 : MM} {p : Int} {ci : Nat} {nm m : Int} {d : Int → Int} (h : OB K M p ci nm m d) (hs : sx M M1) : OB K M1 p ci nm m d := by
  have := h.ge
  exact h.of (h.wf.off_sx hs) (hs.1 _ (by omega)) (hs.1 _ (by omega)) (hs.1 _ (by omega))
/-- a Line's object -/
def LN (K : KK) (M : MM) (l : Int) (ln : Nat) : Prop := (K l = (0, 3) ∧ K (l + 1) = (1, ln) ∧ M l 0 = l + 1) ∧ (0 ≤ M l 1 ∧ M l 1 ≤ ln) ∧ ln ≤ 60
theorem LN.k {K : KK} {M : MM} {l : Int} {ln : Nat} (h : LN K M l ln) : K l = (0, 3) := h.1.1
theorem LN.kq {K : KK} {M : MM} {l : Int} {ln : Nat} (h : LN K M l ln) : K (l + 1) = (1, ln) := h.1.2.1
theorem LN.it {K : KK} {M : MM} {l : Int} {ln : Nat} (h : LN K M l ln) : M l 0 = l + 1 := h.1.2.2
theorem ln_2 {K : KK} {M : MM} (h : WF K M) (hz : 0 ≤ M 2 1 ∧ M 2 1 ≤ 10) : LN K M 2 10 := ⟨⟨wk_2 h, wk_3 h, wm_2_0 h⟩, hz, by decide⟩
theorem ln_4 {K : KK} {M : MM} (h : WF K M) (hz : 0 ≤ M 4 1 ∧ M 4 1 ≤ 10) : LN K M 4 10 := ⟨⟨wk_4 h, wk_5 h, wm_4_0 h⟩, hz, by decide⟩
theorem ln_6 {K : KK} {M : MM} (h : WF K M) (hz : 0 ≤ M 6 1 ∧ M 6 1 ≤ 60) : LN K M 6 60 := ⟨⟨wk_6 h, wk_7 h, wm_6_0 h⟩, hz, by decide⟩
theorem ln_19 {K : KK} {M : MM} (h : WF K M) (hz : 0 ≤ M 19 1 ∧ M 19 1 ≤ 10) : LN K M 19 10 := ⟨⟨wk_19 h, wk_20 h, wm_19_0 h⟩, hz, by decide⟩
theorem ln_26 {K : KK} {M : MM} (h : WF K M) (hz : 0 ≤ M 26 1 ∧ M 26 1 ≤ 10) : LN K M 26 10 := ⟨⟨wk_26 h, wk_27 h, wm_26_0 h⟩, hz, by decide⟩
/-- one more at its end -/
def addM (M : MM) (l x : Int) (ln : Nat) : MM := if M l 1 < ln then st2 (st2 M (l + 1) (M l 1) x) l 1 (M l 1 + 1) else M
/-! the JDK's small ones -/
def bc1 (s : Int) : Int := wr (s - zand (zushr s 1) 1431655765)
def bc2 (x : Int) : Int := wr (zand x 858993459 + zand (zushr x 2) 858993459)
def bc3 (x : Int) : Int := zand (wr (x + zushr x 4)) 252645135
def bc4 (x : Int) : Int := wr (x + zushr x 8)
def bc5 (x : Int) : Int := wr (x + zushr x 16)
def bcF (s : Int) : Int := zand (bc5 (bc4 (bc3 (bc2 (bc1 s))))) 63
set_option maxRecDepth 100000 in
theorem bitc {s : Int} (hs : 0 ≤ s ∧ s < 1024) : bcF s = cnt s := by
  have key : ∀ k : Fin 1024, bcF (k.val : Int) = cnt (k.val : Int) := by decide +kernel
  have := key ⟨s.toNat, by omega⟩
  rw [show ((s.toNat : Nat) : Int) = s by omega] at this
  exact this
def fmd (x k : Int) : Int := if 0 ≤ zxor x k then x.tmod k else if x.tmod k = 0 then x.tmod k else x.tmod k + k
set_option maxRecDepth 100000 in
theorem fmd_mdl {x k : Int} (hx : -100 ≤ x ∧ x ≤ 100) (hk : 1 ≤ k ∧ k ≤ 8) : fmd x k = mdl x k := by
  have key : ∀ (a : Fin 201) (b : Fin 8), fmd ((a.val : Int) - 100) ((b.val : Int) + 1) = mdl ((a.val : Int) - 100) ((b.val : Int) + 1) := by decide +kernel
  have := key ⟨(x + 100).toNat, by omega⟩ ⟨(k - 1).toNat, by omega⟩
  rw [show (((x + 100).toNat : Nat) : Int) - 100 = x by omega, show (((k - 1).toNat : Nat) : Int) + 1 = k by omega] at this
  exact this
theorem bt_zb {s a : Int} (hs : nn s) (ha : 0 ≤ a ∧ a < 31) : (zand (zshr s a) 1 = 0) ↔ bt s a = false := by
  rw [zbit hs ha]
  cases bt s a <;> simp [B]
theorem zshl_p2 (m : Int) : zshl 1 m = p2 m := rfl
/-- NEXT by the sets above and below -/
theorem nxt_dis {m : Int} {d : Int → Int} (h : OK m d) {a b : Int} (hb : 0 ≤ b ∧ b < m) : nxt m d a b = (rel d a b && dis (upS m d a) (d b)) := by
  have hm := h.1
  unfold nxt
  congr 1
  rw [Bool.eq_iff_iff, allB_iff, dis_iff (x := upS m d a) (mk_nn (by omega) _) (h.nn ⟨hb.1, by omega⟩)]
  constructor
  · intro g c h0 h1 hc
    rw [bt_upS hm.2 h0, Bool.and_eq_true, decide_eq_true_eq] at hc
    have := g c h0 hc.1
    rw [hc.2, Bool.true_and, Bool.not_eq_true'] at this
    exact this
  · intro g c h0 h1
    cases hr : rel d a c with
    | false => rfl
    | true =>
      have := g c h0 (by omega) (by rw [bt_upS hm.2 h0, decide_eq_true h1, hr]; rfl)
      show (!(true && bt (d b) c)) = true
      rw [this]; rfl
/-- a method of a class some of whose methods the machine itself runs -/
theorem Met.ofWF {l : Launch} {y : MethodName} {ws ws' : List Cond} {rm : Room} {Pc : Array Value → State → Prop} {Qc : Array Value → State → Outcome → State → Prop} {mc ms : Nat} {free : Addr → Prop} {cc : ByteArray} {maxL : Nat} {ret : Option FieldType}
    (hy : plainFor y = true) (hw : ws = Cond.code y cc maxL ret :: ws')
    (body : ∀ p e s m args below meth c s₁, BodyLoose p l y (headSpec ws rm) cc maxL ret e s m args below meth c s₁ → c.maxLocals = maxL → Pc args s →
      W p l e (headSpec ws rm).room s m args below meth c s.heap [] 0 0 (MQ below Qc args s mc ms free) (entryFrame m args maxL)) : Met l y ws rm Pc Qc mc ms free := by
  refine MetFree.of_bodySF (code := cc) (maxLocals := maxL) (ret := ret) hy ?_ ?_
  · intro args s m h hn
    obtain ⟨meth, c, h1, h2, h3, h4, h5, h6, -, -⟩ := Cond.code_spec hn (atoms_spec (ws := ws) h _ (by rw [hw]; exact List.mem_cons_self))
    exact ⟨meth, c, h1, h2, h3, h4, h5, h6⟩
  · intro p e s m args below meth c s₁ B hml hP _
    have hh0 : s₁.heap = s.heap := by rw [B.state]; rfl
    obtain ⟨t, a1, o, b1, b2, b3⟩ := body p e s m args below meth c s₁ B hml hP s₁ hh0 (Stand.of_body B)
    exact ⟨t, o, a1, b1, b2, ⟨b3.1, b3.2⟩⟩
theorem MC.introF {G : GG} {mi : MI} {d mc ms : Nat} {av : List VV} {n : Nat} {K : KK} {M : MM} {Q : QQ} {lc : LL} (hpl : plainFor mi.1 = true) (hoc : mi.1.cls = mi.2.2.1) (hcat : ∀ v ∈ av, Nat.ble 2 v.1 = false) (hln : av.length ≤ mi.2.2.2.1) (hlc : lgs 0 av = lc)
    (h : (∀ a k, inR (M a k)) → MW G mi (rmd d mc ms) (MZ G Q mc ms) (0, 0) 0 lc [] n K M) : MC G mi d mc ms av n K M Q := by
  intro hok hMR
  refine Met.ofWF (cc := mi.2.1) (maxL := mi.2.2.2.1) (ret := mi.2.2.2.2) (ws' := mw_tbl) hpl rfl ?_
  intro p e s m args below meth c s₁ B hml hv
  obtain ⟨rfl, hHR, hKX⟩ := hv
  have hts0 := atoms_spec (ws := mws mi) B.pre
  have hown : s.vm.findClass mi.1.cls = some m.cls := findClass_of_methodNamed B.named
  have hnm : meth.name = mi.1.name := (name_of_methodNamed B.named B.method).1
  rw [lg_entry_eq]
  have hl := lv_entry (av.map (rv G.2.2.2)) (n := mi.2.2.2.1) (by rw [lgsl_len _ _ hcat]; exact hln)
  rw [lgs_rL _ _ 0 hcat, hlc] at hl
  exact h hMR p e s m _ below meth c s.heap [] _ ⟨B.exec, B.bytes, hml, hoc ▸ hown, fun w hw => hts0 w (List.mem_cons_of_mem _ hw), B.notSynchronized, B.returns, hnm, hKX, by rw [hHR.1]; omega⟩ hHR va_S.rf hl (by rw [← hlc]; exact lgs_ok av 0 hok) (fun v h => by cases h)
