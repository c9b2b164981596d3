/-! ===== the law's rows ===== -/
def LX (G : GG) (p : Program) (s : State) (m : MethodId) (b L : Nat) (xs : Nat → Int32) (c : Code) : Prop := p.tables.exec = Jvm.exec ∧ c.code = code ∧ c.maxLocals = 4 ∧ s.vm.findClass "HalfOrdersLaw" = some m.cls ∧ (∀ w ∈ mw_tbl, w.before #[Value.ref b] s = true) ∧ KX G s ∧ G.2.2.2 = s.heap.size ∧ va_X b L xs s s.heap ∧ b < s.heap.size
def LLv (b B : Nat) (i : Int) : List (Nat × Value) := [(0, .ref b), (1, .ref B), (2, .ref (B + 36)), (3, .int (Int32.ofInt i))]
/-- a number of the script -/
def xv (xs : Nat → Int32) (i : Int) : Int := (xs i.toNat).toInt
def argsV (xs : Nat → Int32) (i : Int) : Nat → List VV
  | 0 => []
  | j + 1 => argsV xs i j ++ [(0, xv xs (i + ((j : Int) + 1)))]
theorem argsV_ok (xs : Nat → Int32) (i : Int) : ∀ j : Nat, (∀ v ∈ argsV xs i j, okV v) ∧ (argsV xs i j).length = j := by
  intro j
  induction j with
  | zero => exact ⟨fun v h => (by cases h), rfl⟩
  | succ j ih =>
    refine ⟨fun v hv => ?_, ?_⟩
    · rcases List.mem_append.mp hv with h | h
      · exact ih.1 v h
      · rw [List.mem_singleton.mp h]; exact inR_to _
    · show (argsV xs i j ++ [_]).length = _
      rw [List.length_append, ih.2]; rfl
def argD (pc : Nat) (j : Nat) : Prop := ∀ t : Nat, t < j → decode code (pc + 5 * t) = .ok (.aload_n 0, 1) ∧ decode code (pc + 5 * t + 1) = .ok (.iload_n 3, 1) ∧ decode code (pc + 5 * t + 1 + 1) = .ok (.iconst ((t : Int) + 1), 1) ∧ decode code (pc + 5 * t + 1 + 1 + 1) = .ok (.iadd, 1) ∧ decode code (pc + 5 * t + 1 + 1 + 1 + 1) = .ok (.iaload, 1)
/-- what both calls answer, and what they leave -/
def SEM (n : Nat) (K : KK) (M : MM) (t : Nat) (Q1 : QQ) (Q2 : Nat → KK → MM → QQ) : Prop := ∀ r1 n1 K1 M1, Q1 r1 n1 K1 M1 → (∃ v, r1 = some (t, v) ∧ ML K1 M1 ∧ ∀ r2 n2 K2 M2, Q2 n1 K1 M1 r2 n2 K2 M2 → r2 = some (t, v) ∧ LK K2 M2 ∧ n2 ≤ n + 3 ∧ 55 ≤ n2)
def WW (cm : MI) (idx j : Nat) : Prop := Cond.code cm.1 cm.2.1 cm.2.2.2.1 cm.2.2.2.2 ∈ mw_tbl ∧ Cond.methodLink "HalfOrdersLaw" idx cm.1 ∈ mw_tbl ∧ Cond.initialized cm.1.cls ∈ mw_tbl ∧ Cond.instanceMethod cm.1 ∈ mw_tbl ∧ Cond.selects cm.1.cls cm.1 cm.1 ∈ mw_tbl ∧ Nm cm.1 j ∧ cm.2.2.2.1 ≤ 45
section LAW
variable {G : GG} {p : Program} {e : Env} {s : State} {m : MethodId} {below : List Frame} {meth : Method} {c : Code} {b L : Nat} {xs : Nat → Int32} {H : Heap} {locs : List Loc} {cells slots : Nat} {Zw : State → Prop} {ls : Array Slot} {n : Nat} {K : KK} {M : MM} {Q : QQ}
theorem lw_args (cx : LX G p s m b L xs c) (hs : va_S (mw_own G) s.heap H locs) {i : Int} (hl : lv_has ls 4 (LLv b G.2.2.2 i)) (hi : 0 ≤ i ∧ i + 5 ≤ L) (hL : L ≤ 2560) {pc : Nat} {st : List Value} : ∀ j : Nat, j ≤ 4 → argD pc j → W p G.1 e room_1 s m #[Value.ref b] below meth c H locs cells slots Zw (F0 m (pc + 5 * j) ls (((argsV xs i j).map (rv G.2.2.2)).reverse ++ st)) → W p G.1 e room_1 s m #[Value.ref b] below meth c H locs cells slots Zw (F0 m pc ls st) := by
  obtain ⟨hx, hb, hml, hown, hts, hK, hB, hX, hbl⟩ := cx
  intro j
  induction j with
  | zero => intro _ _ kk; exact kk
  | succ j ih =>
    intro hj hd kk
    refine ih (by omega) (fun t ht => hd t (by omega)) ?_
    obtain ⟨d0, d1, d2, d3, d4⟩ := hd j (by omega)
    refine lv_aload_n hx hb d0 rfl (lv_at hl 0 rfl) ?_
    refine lv_iload_n hx hb d1 rfl (lv_at hl 3 rfl) ?_
    refine lv_iconst hx hb d2 rfl ?_
    refine lv_iadd hx hb d3 ?_
    rw [← Int32.ofInt_add]
    have hR : inR (i + ((j : Int) + 1)) := ⟨by omega, by omega⟩
    refine va_sld hx hb hX hbl (A := mw_own G) (by show ¬ G.2.2.2 ≤ b; omega) hs (fun q => ?_) d4 ?_
    · rcases q with q | q
      · have := (i3_lt hR (show inR 0 from ⟨by omega, by omega⟩)).mp q
        omega
      · rw [i3_nat hR] at q; omega
    · rw [i3_nat hR]
      have e1 : ((argsV xs i (j + 1)).map (rv G.2.2.2)).reverse ++ st = .int (xs (i + ((j : Int) + 1)).toNat) :: (((argsV xs i j).map (rv G.2.2.2)).reverse ++ st) := by
        show ((argsV xs i j ++ [(0, xv xs (i + ((j : Int) + 1)))]).map (rv G.2.2.2)).reverse ++ st = _
        rw [List.map_append, List.reverse_append, List.map_cons, List.map_nil, rv_i]
        show Value.int (Int32.ofInt (xs _).toInt) :: _ = _
        rw [Int32.ofInt_toInt]
        rfl
      rw [e1] at kk
      exact kk
theorem lw_callV (cx : LX G p s m b L xs c) (hr : HR G n K M H) (hs : va_S (mw_own G) s.heap H locs) {lv : List (Nat × Value)} (hl : lv_has ls 4 lv) {cm : MI} {av : List VV} {idx d mc ms ci : Nat} {a : Int} {pc : Nat} {rest : List Value} (hav : ∀ v ∈ av, okV v) (ha31 : inR a) (hd : decode code pc = .ok (.invokevirtual idx, 3)) (hM : MC G cm d mc ms ((1, a) :: av) n K M Q) (hk : K a = (0, ci)) (hc : CL ci) (hci : (vC ci).1 = cm.1.cls) (hd18 : d ≤ 18) (hcs : cells + mc ≤ 600000 ∧ slots + ms ≤ 7302250) (hcat : (rest.map fun v => v.category).sum ≤ 8) (ww : WW cm idx av.length)
    (kk : ∀ (rr : Option VV) (n' : Nat) (K' : KK) (M' : MM) (H1 : Heap) (locs1 : List Loc), Q rr n' K' M' → (∀ v, rr = some v → okV v) → HR G n' K' M' H1 → va_S (mw_own G) s.heap H1 locs1 → W p G.1 e room_1 s m #[Value.ref b] below meth c H1 locs1 (cells + mc) (slots + ms) Zw (F0 m (pc + 3) ls ((rr.map (rv G.2.2.2)).toList ++ rest))) : W p G.1 e room_1 s m #[Value.ref b] below meth c H locs cells slots Zw (F0 m pc ls ((av.map (rv G.2.2.2)).reverse ++ .ref (G.2.2.2 + a.toNat) :: rest)) := by
  obtain ⟨hx, hb, hml, hown, hts, hK, hB, hX, hbl⟩ := cx
  obtain ⟨wcode, wlink, wini, winst, wsel, wnm, w45⟩ := ww
  have ha : 0 ≤ a := (hr.cell (a := a) (by rw [hk]; simp)).1
  refine W_call (va_runV (C := cm.1.cls) (b := G.2.2.2 + a.toNat) (As := av.map (rv G.2.2.2)) (rest := rest) ⟨hx, hb, hml, hown, hts⟩ (hM (List.forall_mem_cons.mpr ⟨ha31, hav⟩) hr.2.1) ⟨callB_of av.length hts (mws_good wcode) rfl rfl rfl (hts _ wini) (hts _ wlink) wnm ⟨?_, ?_⟩, hts _ winst, hts _ wsel⟩ ⟨PCn_blind, hci ▸ mrecv hr hK hk hc, fun U hU hW => ⟨by rw [List.map_cons, rv_r ha], by rw [hU]; exact hr, KX.moved hW.alike hK⟩⟩ rfl (by rw [List.length_map]) hl.1 rfl (lv_room hcat) hd ⟨hcs.1, hcs.2⟩) hs kk
  · show d + 1 ≤ 2048; omega
  · show 8 + (cm.2.2.2.1 + 11) + 64 * d ≤ 84000; omega
def caseD (pc j idx1 idx2 : Nat) (off : Int) : Prop := decode code pc = .ok (.aload_n 1, 1) ∧ argD (pc + 1) j ∧ decode code (pc + 1 + 5 * j) = .ok (.invokevirtual idx1, 3) ∧ decode code (pc + 1 + 5 * j + 3) = .ok (.aload_n 2, 1) ∧ argD (pc + 1 + 5 * j + 3 + 1) j ∧ decode code (pc + 1 + 5 * j + 3 + 1 + 5 * j) = .ok (.invokevirtual idx2, 3) ∧ decode code (pc + 1 + 5 * j + 3 + 1 + 5 * j + 3) = .ok (.if_icmp .eq off, 3) ∧ ((pc + 1 + 5 * j + 3 + 1 + 5 * j + 3 : Nat) : Int) + off = ((1425 : Nat) : Int)
theorem law_case (cx : LX G p s m b L xs c) (hr : HR G n K M H) (hs : va_S (mw_own G) s.heap H locs) {i : Int} (hl : lv_has ls 4 (LLv b G.2.2.2 i)) (hi : 0 ≤ i ∧ i + 5 ≤ L) (hL : L ≤ 2560) (hw : WF K M) (hcs : cells + 3 ≤ 600000 ∧ slots + 25 ≤ 7302250)
    {cm1 cm2 : MI} {pc j idx1 idx2 d1 d2 mc ms : Nat} {off : Int} {av : List VV} {Q1 : QQ} {Q2 : Nat → KK → MM → QQ} (hav : argsV xs i j = av) (hdec : caseD pc j idx1 idx2 off) (hM1 : MC G cm1 d1 mc ms ((1, 0) :: av) n K M Q1) (hM2 : ∀ n1 K1 M1, ML K1 M1 → MC G cm2 d2 0 0 ((1, 36) :: av) n1 K1 M1 (Q2 n1 K1 M1)) (hS : SEM n K M 0 Q1 Q2) (hj : j ≤ 4) (w1 : WW cm1 idx1 j) (w2 : WW cm2 idx2 j) (c1 : "HalfOrders" = cm1.1.cls) (c2 : "HalfOrdersModel" = cm2.1.cls) (hd : (d1 ≤ 18 ∧ d2 ≤ 18) ∧ mc ≤ 3 ∧ ms ≤ 25)
    (kk : ∀ (n' : Nat) (K' : KK) (M' : MM) (H1 : Heap) (locs1 : List Loc), LK K' M' → n' ≤ n + 3 → 55 ≤ n' → HR G n' K' M' H1 → va_S (mw_own G) s.heap H1 locs1 → W p G.1 e room_1 s m #[Value.ref b] below meth c H1 locs1 (cells + 3) (slots + 25) Zw (F0 m 1425 ls [])) : W p G.1 e room_1 s m #[Value.ref b] below meth c H locs cells slots Zw (F0 m pc ls []) := by
  obtain ⟨hx, hb, hml, hown, hts, hK, hB, hX, hbl⟩ := id cx
  obtain ⟨e0, e1, e2, e3, e4, e5, e6, e7⟩ := hdec
  have hlen : av.length = j := by rw [← hav]; exact (argsV_ok xs i j).2
  have hok : ∀ v ∈ av, okV v := by rw [← hav]; exact (argsV_ok xs i j).1
  refine lv_aload_n hx hb e0 rfl (lv_at hl 1 rfl) ?_
  refine lw_args cx hs hl hi hL j hj e1 ?_
  rw [hav]
  refine lw_callV (a := 0) cx hr hs hl hok ⟨by omega, by omega⟩ e2 hM1 (wk_0 hw) cl_11 c1 hd.1.1 ⟨by omega, by omega⟩ (by decide) (by rw [hlen]; exact w1) (fun rr n1 K1 M1 H1 locs1 hq hrok hr1 hs1 => ?_)
  obtain ⟨v, rfl, hml1, hS2⟩ := hS rr n1 K1 M1 hq
  refine lv_aload_n hx hb e3 rfl (lv_at hl 2 rfl) ?_
  refine lw_args cx hs1 hl hi hL j hj e4 ?_
  rw [hav]
  have hvR : inR v := hrok _ rfl
  refine lw_callV (a := 36) cx hr1 hs1 hl hok ⟨by omega, by omega⟩ e5 (hM2 n1 K1 M1 hml1) (wk_36 hml1.1.1) cl_12 c2 hd.1.2 ⟨by omega, by omega⟩ (show (1 + 0 : Nat) ≤ 8 by decide) (by rw [hlen]; exact w2) (fun rr2 n2 K2 M2 H2 locs2 hq2 hrok2 hr2 hs2 => ?_)
  obtain ⟨rfl, hlk, hn2, hn5⟩ := hS2 rr2 n2 K2 M2 hq2
  refine lv_icmp_eq hx hb e6 e7 (fun _ => ?_) (fun q => absurd rfl q)
  exact W.widen (by omega) (by omega) (kk n2 K2 M2 H2 locs2 hlk hn2 hn5 hr2 hs2)
def caseDL (pc j idx1 idx2 : Nat) (off : Int) : Prop := decode code pc = .ok (.aload_n 1, 1) ∧ argD (pc + 1) j ∧ decode code (pc + 1 + 5 * j) = .ok (.invokevirtual idx1, 3) ∧ decode code (pc + 1 + 5 * j + 3) = .ok (.aload_n 2, 1) ∧ argD (pc + 1 + 5 * j + 3 + 1) j ∧ decode code (pc + 1 + 5 * j + 3 + 1 + 5 * j) = .ok (.invokevirtual idx2, 3) ∧ decode code (pc + 1 + 5 * j + 3 + 1 + 5 * j + 3) = .ok (.lcmp, 1) ∧ decode code (pc + 1 + 5 * j + 3 + 1 + 5 * j + 3 + 1) = .ok (.ifCond .eq off, 3) ∧ ((pc + 1 + 5 * j + 3 + 1 + 5 * j + 3 + 1 : Nat) : Int) + off = ((1425 : Nat) : Int)
theorem law_caseL (cx : LX G p s m b L xs c) (hr : HR G n K M H) (hs : va_S (mw_own G) s.heap H locs) {i : Int} (hl : lv_has ls 4 (LLv b G.2.2.2 i)) (hi : 0 ≤ i ∧ i + 5 ≤ L) (hL : L ≤ 2560) (hw : WF K M) (hcs : cells + 3 ≤ 600000 ∧ slots + 25 ≤ 7302250)
    {cm1 cm2 : MI} {pc j idx1 idx2 d1 d2 mc ms : Nat} {off : Int} {av : List VV} {Q1 : QQ} {Q2 : Nat → KK → MM → QQ} (hav : argsV xs i j = av) (hdec : caseDL pc j idx1 idx2 off) (hM1 : MC G cm1 d1 mc ms ((1, 0) :: av) n K M Q1) (hM2 : ∀ n1 K1 M1, ML K1 M1 → MC G cm2 d2 0 0 ((1, 36) :: av) n1 K1 M1 (Q2 n1 K1 M1)) (hS : SEM n K M 2 Q1 Q2) (hj : j ≤ 4) (w1 : WW cm1 idx1 j) (w2 : WW cm2 idx2 j) (c1 : "HalfOrders" = cm1.1.cls) (c2 : "HalfOrdersModel" = cm2.1.cls) (hd : (d1 ≤ 18 ∧ d2 ≤ 18) ∧ mc ≤ 3 ∧ ms ≤ 25)
    (kk : ∀ (n' : Nat) (K' : KK) (M' : MM) (H1 : Heap) (locs1 : List Loc), LK K' M' → n' ≤ n + 3 → 55 ≤ n' → HR G n' K' M' H1 → va_S (mw_own G) s.heap H1 locs1 → W p G.1 e room_1 s m #[Value.ref b] below meth c H1 locs1 (cells + 3) (slots + 25) Zw (F0 m 1425 ls [])) : W p G.1 e room_1 s m #[Value.ref b] below meth c H locs cells slots Zw (F0 m pc ls []) := by
  obtain ⟨hx, hb, hml, hown, hts, hK, hB, hX, hbl⟩ := id cx
  obtain ⟨e0, e1, e2, e3, e4, e5, e6, e6', e7⟩ := hdec
  have hlen : av.length = j := by rw [← hav]; exact (argsV_ok xs i j).2
  have hok : ∀ v ∈ av, okV v := by rw [← hav]; exact (argsV_ok xs i j).1
  refine lv_aload_n hx hb e0 rfl (lv_at hl 1 rfl) ?_
  refine lw_args cx hs hl hi hL j hj e1 ?_
  rw [hav]
  refine lw_callV (a := 0) cx hr hs hl hok ⟨by omega, by omega⟩ e2 hM1 (wk_0 hw) cl_11 c1 hd.1.1 ⟨by omega, by omega⟩ (by decide) (by rw [hlen]; exact w1) (fun rr n1 K1 M1 H1 locs1 hq hrok hr1 hs1 => ?_)
  obtain ⟨v, rfl, hml1, hS2⟩ := hS rr n1 K1 M1 hq
  refine lv_aload_n hx hb e3 rfl (lv_at hl 2 rfl) ?_
  refine lw_args cx hs1 hl hi hL j hj e4 ?_
  rw [hav]
  have hvR : inL v := hrok _ rfl
  refine lw_callV (a := 36) cx hr1 hs1 hl hok ⟨by omega, by omega⟩ e5 (hM2 n1 K1 M1 hml1) (wk_36 hml1.1.1) cl_12 c2 hd.1.2 ⟨by omega, by omega⟩ (show (2 + 0 : Nat) ≤ 8 by decide) (by rw [hlen]; exact w2) (fun rr2 n2 K2 M2 H2 locs2 hq2 hrok2 hr2 hs2 => ?_)
  obtain ⟨rfl, hlk, hn2, hn5⟩ := hS2 rr2 n2 K2 M2 hq2
  refine W.lcmp hx hb e6 ?_
  rw [lg_cmp_z hvR hvR, show zcmp v v = 0 by unfold zcmp; rw [if_neg (by omega), if_pos rfl]]
  refine lv_if_eq hx hb e6' e7 (fun _ => ?_) (fun q => absurd rfl q)
  exact W.widen (by omega) (by omega) (kk n2 K2 M2 H2 locs2 hlk hn2 hn5 hr2 hs2)
end LAW
