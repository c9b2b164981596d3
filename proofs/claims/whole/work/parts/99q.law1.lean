/-! ===== the law's entry: what the tables give ===== -/
set_option maxRecDepth 100000 in
theorem ex_inst : ∀ C ∈ ex_cs, Cond.instantiable C 5 ∈ tables_1 := by decide +kernel
set_option maxRecDepth 100000 in
theorem ex_priv : ∀ y ∈ ex_ms, (y, 5) ∈ lw_privs := by decide +kernel
theorem law_mw {s : State} {args : Array Value} (hts : ∀ w ∈ lw_tbl, w.before args s = true) : ∀ w ∈ mw_tbl, w.before args s = true := by
  intro w hw
  have h1 := (List.mem_filter.mp hw).1
  rcases List.mem_append.mp h1 with h | h
  · exact hts w h
  · unfold ex_sels at h
    obtain ⟨C, hC, h2⟩ := List.mem_flatMap.mp h
    obtain ⟨y, hy, rfl⟩ := List.mem_map.mp h2
    obtain ⟨h3, h4, h5, h6⟩ := lw_privs_ok (y, 5) (ex_priv y hy)
    exact selects_priv h3 (hts _ (List.mem_append_right _ (ex_inst C hC))) (hts _ (List.mem_append_right _ h4)) (hts _ (List.mem_append_right _ h5)) (hts _ (List.mem_append_right _ h6))
theorem cl_all (ci : Nat) (h : ci < 13) : CL ci := by
  have : ci = 0 ∨ ci = 1 ∨ ci = 2 ∨ ci = 3 ∨ ci = 4 ∨ ci = 5 ∨ ci = 6 ∨ ci = 7 ∨ ci = 8 ∨ ci = 9 ∨ ci = 10 ∨ ci = 11 ∨ ci = 12 := by omega
  rcases this with rfl | rfl | rfl | rfl | rfl | rfl | rfl | rfl | rfl | rfl | rfl | rfl | rfl
  · exact cl_0
  · exact cl_1
  · exact cl_2
  · exact cl_3
  · exact cl_4
  · exact cl_5
  · exact cl_6
  · exact cl_7
  · exact cl_8
  · exact cl_9
  · exact cl_10
  · exact cl_11
  · exact cl_12
set_option maxRecDepth 100000 in
theorem cl_inst : ∀ ci : Fin 13, Cond.instantiable (vC ci.val).1 (vC ci.val).2.2 ∈ mw_tbl := by decide +kernel
set_option maxRecDepth 100000 in
theorem law_ncl : ∀ q ∈ ncl, Cond.not (.castable q.1 q.2) ∈ flatC (Jvm.Cond.and given_1 narrow_1) := by decide +kernel
set_option maxRecDepth 100000 in
theorem law_cal : ∀ q ∈ cal, Cond.castable q.1 q.2 ∈ lw_tbl := by decide +kernel
set_option maxRecDepth 100000 in
theorem law_dcl : ∀ x ∈ dcl, Cond.declares x ∈ lw_tbl := by decide +kernel
set_option maxRecDepth 100000 in
theorem law_arr : Cond.arrayClass .int ∈ lw_tbl ∧ Cond.arrayOver (.object "HalfOrders$Order") ∈ lw_tbl ∧ Cond.arrayOver (.object "HalfOrders$Sheet") ∈ lw_tbl := by decide +kernel
theorem law_ao {s : State} {args : Array Value} {C : String} (h : (Cond.arrayOver (.object C)).before args s = true) : ∃ cA : ClassId, ArrOfT s cA (.object C) ∧ va_RA s cA (.object C) := by
  obtain ⟨comp, cA, kA, f4, _, f2, f3, f1⟩ := Cond.arrayOver_spec h
  exact ⟨cA, fun N z => ⟨(fun k h => by cases h), kA, f2, comp, f3⟩, kA, comp, f2, f3, f4, f1⟩
theorem law_KX (l : Launch) {s : State} {args : Array Value} (hts : ∀ w ∈ lw_tbl, w.before args s = true) (hgv : (Jvm.Cond.and given_1 narrow_1).before args s = true) : ∃ G : GG, G.1 = l ∧ G.2.2.2 = s.heap.size ∧ KX G s := by
  have hmw := law_mw hts
  obtain ⟨D, hD⟩ := Classical.axiomOfChoice (r := fun (c : Nat) (d : ClassId × (Nat → Nat)) => ∀ q : vw_C, vwCl[c]? = some q → u_Kn s q.1 q.2.1 q.2.2 d.1 d.2) (fun c => by
    by_cases hc : c < 13
    · obtain ⟨cC, iS, h⟩ := u_known (n := (vC c).2.2) hmw (cl_all c hc).2.1 (hmw _ (cl_inst ⟨c, hc⟩))
      refine ⟨(cC, iS), fun q hq => ?_⟩
      have : q = vC c := Option.some.inj (hq.symm.trans (cl_all c hc).1)
      rw [this]
      exact h
    · refine ⟨(0, fun _ => 0), fun q hq => ?_⟩
      have hl : c < vwCl.length := (List.getElem?_eq_some_iff.mp hq).1
      exact absurd hl hc)
  obtain ⟨cI, kI, compI, i1, i2, i3⟩ := Cond.arrayClass_spec (hts _ law_arr.1)
  obtain ⟨cO, o1, o2⟩ := law_ao (hts _ law_arr.2.1)
  obtain ⟨cS, s1, s2⟩ := law_ao (hts _ law_arr.2.2)
  refine ⟨(l, (fun c => (D c).1, fun c => (D c).2), (cI, cO, cS), s.heap.size), rfl, rfl, ⟨fun c q hq => hD c q hq, fun k q hk => ?_⟩, fun q hq => va_Nc.of (flat_of_before _ hgv _ (law_ncl q hq)), fun q hq => Cond.castable_spec (hts _ (law_cal q hq)), fun x hx => va_tabs (by rfl) rfl (hts _ (law_dcl x hx)), va_AO.of (hts _ law_arr.2.1), va_AO.of (hts _ law_arr.2.2)⟩
  have hk3 : k < 3 := (List.getElem?_eq_some_iff.mp hk).1
  have : k = 0 ∨ k = 1 ∨ k = 2 := by omega
  rcases this with rfl | rfl | rfl
  · cases hk; exact ⟨fun n z => ⟨fun k h => (by cases h), kI, i2, compI, i3⟩, i1⟩
  · cases hk; exact ⟨o1, o2⟩
  · cases hk; exact ⟨s1, s2⟩
