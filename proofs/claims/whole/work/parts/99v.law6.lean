/-! ===== the law's start and its loop ===== -/
set_option maxRecDepth 100000 in
theorem u_cl_X11 : (Jvm.Cond.classLink "HalfOrdersLaw" (7 : Nat) "HalfOrders") ∈ mw_tbl := mwt_1 17 rfl rfl
set_option maxRecDepth 100000 in
theorem u_in_X11 : (Jvm.Cond.instantiable "HalfOrders" (12 : Nat)) ∈ mw_tbl := mwt_1 18 rfl rfl
set_option maxRecDepth 100000 in
theorem u_ni_X11 : (Jvm.Cond.initialized "HalfOrders") ∈ mw_tbl := mwt_1 1 rfl rfl
set_option maxRecDepth 100000 in
theorem u_cd_X11 : (Jvm.Cond.code ({ cls := "HalfOrders", name := "<init>", desc := "()V" } : Jvm.MethodName) prog_1_method_1_code (2 : Nat) (Option.none : Option Jvm.ClassFile.FieldType)) ∈ mw_tbl := mwt_1 21 rfl rfl
set_option maxRecDepth 100000 in
theorem u_li_X11 : (Jvm.Cond.methodLink "HalfOrdersLaw" (9 : Nat) ({ cls := "HalfOrders", name := "<init>", desc := "()V" } : Jvm.MethodName)) ∈ mw_tbl := mwt_1 19 rfl rfl
set_option maxRecDepth 100000 in
theorem u_im_X11 : (Jvm.Cond.instanceMethod ({ cls := "HalfOrders", name := "<init>", desc := "()V" } : Jvm.MethodName)) ∈ mw_tbl := mwt_1 20 rfl rfl
set_option maxRecDepth 100000 in
theorem u_cl_X12 : (Jvm.Cond.classLink "HalfOrdersLaw" (10 : Nat) "HalfOrdersModel") ∈ mw_tbl := mwt_5 75 rfl rfl
set_option maxRecDepth 100000 in
theorem u_in_X12 : (Jvm.Cond.instantiable "HalfOrdersModel" (27 : Nat)) ∈ mw_tbl := mwt_5 76 rfl rfl
set_option maxRecDepth 100000 in
theorem u_ni_X12 : (Jvm.Cond.initialized "HalfOrdersModel") ∈ mw_tbl := mwt_1 8 rfl rfl
set_option maxRecDepth 100000 in
theorem u_cd_X12 : (Jvm.Cond.code ({ cls := "HalfOrdersModel", name := "<init>", desc := "()V" } : Jvm.MethodName) prog_14_method_1_code (2 : Nat) (Option.none : Option Jvm.ClassFile.FieldType)) ∈ mw_tbl := mwt_5 79 rfl rfl
set_option maxRecDepth 100000 in
theorem u_li_X12 : (Jvm.Cond.methodLink "HalfOrdersLaw" (12 : Nat) ({ cls := "HalfOrdersModel", name := "<init>", desc := "()V" } : Jvm.MethodName)) ∈ mw_tbl := mwt_5 77 rfl rfl
set_option maxRecDepth 100000 in
theorem u_im_X12 : (Jvm.Cond.instanceMethod ({ cls := "HalfOrdersModel", name := "<init>", desc := "()V" } : Jvm.MethodName)) ∈ mw_tbl := mwt_5 78 rfl rfl
set_option maxRecDepth 100000 in
theorem dl_0 : decode code 0 = .ok (.new 7, 3) := by decide +kernel
set_option maxRecDepth 100000 in
theorem dl_3 : decode code 3 = .ok (.dup, 1) := by decide +kernel
set_option maxRecDepth 100000 in
theorem dl_4 : decode code 4 = .ok (.invokespecial 9, 3) := by decide +kernel
set_option maxRecDepth 100000 in
theorem dl_7 : decode code 7 = .ok (.astore_n 1, 1) := by decide +kernel
set_option maxRecDepth 100000 in
theorem dl_8 : decode code 8 = .ok (.new 10, 3) := by decide +kernel
set_option maxRecDepth 100000 in
theorem dl_11 : decode code 11 = .ok (.dup, 1) := by decide +kernel
set_option maxRecDepth 100000 in
theorem dl_12 : decode code 12 = .ok (.invokespecial 12, 3) := by decide +kernel
set_option maxRecDepth 100000 in
theorem dl_15 : decode code 15 = .ok (.astore_n 2, 1) := by decide +kernel
set_option maxRecDepth 100000 in
theorem dl_16 : decode code 16 = .ok (.iconst 0, 1) := by decide +kernel
set_option maxRecDepth 100000 in
theorem dl_17 : decode code 17 = .ok (.istore_n 3, 1) := by decide +kernel
set_option maxRecDepth 100000 in
theorem dl_18 : decode code 18 = .ok (.iload_n 3, 1) := by decide +kernel
set_option maxRecDepth 100000 in
theorem dl_19 : decode code 19 = .ok (.aload_n 0, 1) := by decide +kernel
set_option maxRecDepth 100000 in
theorem dl_20 : decode code 20 = .ok (.arraylength, 1) := by decide +kernel
set_option maxRecDepth 100000 in
theorem dl_21 : decode code 21 = .ok (.iconst 5, 1) := by decide +kernel
set_option maxRecDepth 100000 in
theorem dl_22 : decode code 22 = .ok (.isub, 1) := by decide +kernel
set_option maxRecDepth 100000 in
theorem dl_23 : decode code 23 = .ok (.if_icmp .gt 1408, 3) := by decide +kernel
set_option maxRecDepth 100000 in
theorem dl_26 : decode code 26 = .ok (.aload_n 0, 1) := by decide +kernel
set_option maxRecDepth 100000 in
theorem dl_27 : decode code 27 = .ok (.iload_n 3, 1) := by decide +kernel
set_option maxRecDepth 100000 in
theorem dl_28 : decode code 28 = .ok (.iaload, 1) := by decide +kernel
set_option maxRecDepth 100000 in
theorem dl_29 : decode code 29 = .ok (.bipush 63, 2) := by decide +kernel
set_option maxRecDepth 100000 in
theorem dl_31 : decode code 31 = .ok (.iand, 1) := by decide +kernel
set_option maxRecDepth 100000 in
theorem dl_32 : decode code 32 = .ok (.tableswitch 1393 0 37 #[168, 191, 234, 257, 290, 323, 356, 379, 402, 425, 458, 471, 504, 527, 570, 593, 636, 669, 712, 755, 789, 812, 855, 898, 951, 974, 997, 1040, 1073, 1086, 1109, 1132, 1175, 1198, 1241, 1284, 1337, 1380], 168) := by decide +kernel
set_option maxRecDepth 100000 in
theorem dl_1425 : decode code 1425 = .ok (.iinc 3 5, 3) := by decide +kernel
set_option maxRecDepth 100000 in
theorem dl_1428 : decode code 1428 = .ok (.goto (-1410), 3) := by decide +kernel
set_option maxRecDepth 100000 in
theorem dl_1431 : decode code 1431 = .ok (.iconst 1, 1) := by decide +kernel
set_option maxRecDepth 100000 in
theorem dl_1432 : decode code 1432 = .ok (.ireturn, 1) := by decide +kernel
section LSTART
variable {G : GG} {p : Program} {e : Env} {s : State} {m : MethodId} {below : List Frame} {meth : Method} {c : Code} {b L : Nat} {xs : Nat → Int32} {H : Heap} {locs : List Loc} {cells slots : Nat} {Zw : State → Prop} {ls : Array Slot} {n : Nat} {K : KK} {M : MM} {Q : QQ}
theorem lw_new (cx : LX G p s m b L xs c) (hr : HR G n K M H) (hs : va_S (mw_own G) s.heap H locs) {ci idx pc : Nat} {st : List Value} (hd : decode code pc = .ok (.new idx, 3)) (hc : CL ci) (hcd : CD ci) (hw : Cond.classLink "HalfOrdersLaw" idx (vC ci).1 ∈ mw_tbl) (hi : Cond.instantiable (vC ci).1 (vC ci).2.2 ∈ mw_tbl) (hini : Cond.initialized (vC ci).1 ∈ mw_tbl) (hfit : cells + 1 ≤ 600000 ∧ slots + (vC ci).2.2 ≤ 7302250)
    (kk : ∀ H1 : Heap, HR G (n + 1) (upK K n (0, ci)) (zM M n (fT ci)) H1 → va_S (mw_own G) s.heap H1 locs → W p G.1 e room_1 s m #[Value.ref b] below meth c H1 locs (cells + 1) (slots + (vC ci).2.2) Zw (F0 m (pc + 3) ls (.ref (G.2.2.2 + n) :: st))) : W p G.1 e room_1 s m #[Value.ref b] below meth c H locs cells slots Zw (F0 m pc ls st) := by
  obtain ⟨hx, hb, hml, hown, hts, hK, hB, hX, hbl⟩ := cx
  have hKn := hK.1.1 ci _ hc.1
  refine W.newcK hx hb hown (hts _ hw) (hts _ hi) (hts _ hini) rfl hd hfit.1 hfit.2 hKn.2.1 rfl fun H1 kC hkC e1 z1 o1 => ?_
  have hHR : HR G (n + 1) (upK K n (0, ci)) (zM M n (fT ci)) H1 := by
    refine hr.push z1 o1 (fun x hx => zM_ne M hx) (fun j => ?_) ?_
    · unfold zM; rw [if_pos rfl]; split <;> exact ⟨by omega, by omega⟩
    · rw [cE_obj (ci := ci) (if_pos rfl)]
      rw [hr.1] at e1
      refine ⟨vC ci, hc.1, (u_born (tC ci) hts hc.2.1 hKn hkC e1 hc.2.2.1).to (fun j hj => ?_)⟩
      have hj2 : j < (fT ci).length := by rw [hc.2.2.2.2]; exact hj
      have htj : (fT ci)[j]? = some (fT ci)[j] := List.getElem?_eq_getElem hj2
      rw [vpV_map (f := zM M n (fT ci) n) htj, hcd j hj]
      have e2 : zM M n (fT ci) n (j : Int) = if (fT ci)[j] = 1 then -1 else 0 := by
        unfold zM
        rw [if_pos rfl, show ((j : Int)).toNat = j from rfl, List.getD_eq_getElem?_getD, htj]
        rfl
      rw [e2, dv_ok (fT_le ci _ (List.getElem_mem hj2)), List.getD_eq_getElem?_getD, htj]
      rfl
  have k0 := kk H1 hHR ⟨Nat.le_trans hs.1 (by omega), fun x h1 h2 => (o1 x (Nat.lt_of_lt_of_le h1 hs.1)).trans (hs.2.1 x h1 h2), hs.2.2⟩
  rw [hr.1]
  exact k0
theorem lw_callI (cx : LX G p s m b L xs c) (hr : HR G n K M H) (hs : va_S (mw_own G) s.heap H locs) {lv : List (Nat × Value)} (hl : lv_has ls 4 lv) {cm : MI} {idx d mc ms pc : Nat} {a : Int} {rest : List Value} (ha : 0 ≤ a ∧ a < 1000) (hd : decode code pc = .ok (.invokespecial idx, 3)) (hM : MC G cm d mc ms [(1, a)] n K M Q) (hin : cm.1.name = "<init>") (hrn : cm.2.2.2.2 = none) (hd18 : d ≤ 18) (h45 : cm.2.2.2.1 ≤ 45) (hcs : cells + mc ≤ 600000 ∧ slots + ms ≤ 7302250) (hcat : (rest.map fun v => v.category).sum ≤ 8) (hnm : Nm cm.1 0) (hcode : Cond.code cm.1 cm.2.1 cm.2.2.2.1 cm.2.2.2.2 ∈ mw_tbl) (hlink : Cond.methodLink "HalfOrdersLaw" idx cm.1 ∈ mw_tbl) (hini : Cond.initialized cm.1.cls ∈ mw_tbl) (hinst : Cond.instanceMethod cm.1 ∈ mw_tbl)
    (kk : ∀ (rr : Option VV) (n' : Nat) (K' : KK) (M' : MM) (H1 : Heap) (locs1 : List Loc), Q rr n' K' M' → HR G n' K' M' H1 → va_S (mw_own G) s.heap H1 locs1 → W p G.1 e room_1 s m #[Value.ref b] below meth c H1 locs1 (cells + mc) (slots + ms) Zw (F0 m (pc + 3) ls ((rr.map (rv G.2.2.2)).toList ++ rest))) : W p G.1 e room_1 s m #[Value.ref b] below meth c H locs cells slots Zw (F0 m pc ls (.ref (G.2.2.2 + a.toNat) :: rest)) := by
  obtain ⟨hx, hb, hml, hown, hts, hK, hB, hX, hbl⟩ := cx
  refine W_call (va_runI (b := G.2.2.2 + a.toNat) (As := []) (rest := rest) ⟨hx, hb, hml, hown, hts⟩ (hM (List.forall_mem_cons.mpr ⟨show inR a from ⟨by omega, by omega⟩, fun v h => by cases h⟩) hr.2.1) (cwI (bytes := cm.2.1) (maxL := cm.2.2.2.1) (ws' := mw_tbl) 0 hts (mws_good hcode) (by unfold mws; rw [hrn]) rfl rfl (hts _ hini) (hts _ hlink) (hts _ hinst) hin hnm ⟨?_, ?_⟩) ⟨PCn_blind, fun U hU hW => ⟨by rw [List.map_cons, rv_r ha.1]; rfl, by rw [hU]; exact hr, KX.moved hW.alike hK⟩⟩ rfl rfl hl.1 rfl (lv_room hcat) hd ⟨hcs.1, hcs.2⟩) hs (fun rr n' K' M' H1 locs1 hq _ hHR hs1 => kk rr n' K' M' H1 locs1 hq hHR hs1)
  · show d + 1 ≤ 2048; omega
  · show 8 + (cm.2.2.2.1 + 11) + 64 * d ≤ 84000; omega
end LSTART

theorem law_loop {G : GG} {p : Program} {e : Env} {s : State} {m : MethodId} {below : List Frame} {meth : Method} {c : Code} {b L : Nat} {xs : Nat → Int32} (cx : LX G p s m b L xs c) (hL : L ≤ 2560) (hret : meth.sig.returnType = ret) (hlk : meth.locks = false) : ∀ (f : Nat) (i : Int) (n : Nat) (K : KK) (M : MM) (H : Heap) (locs : List Loc) (ls : Array Slot) (cells slots : Nat), (L : Int) - i ≤ 5 * f → 0 ≤ i → i ≤ 2600 → LK K M → (55 ≤ n ∧ n + 3 * f < 50000) → (cells + 3 * f ≤ 600000 ∧ slots + 25 * f ≤ 7302250) → HR G n K M H → va_S (mw_own G) s.heap H locs → lv_has ls 4 (LLv b G.2.2.2 i) → W p G.1 e room_1 s m #[Value.ref b] below meth c H locs cells slots (lw_Z below #[Value.ref b] s) (F0 m 18 ls []) := by
  obtain ⟨hx, hb, hml, hown, hts, hK, hB, hX, hbl⟩ := id cx
  have hbA : ¬ mw_own G b := by show ¬ G.2.2.2 ≤ b; omega
  intro f
  induction f with
  | zero =>
    intro i n K M H locs ls cells slots hf hi hi2 h hn hcs hr hs hl
    refine lv_iload_n hx hb dl_18 rfl (lv_at hl 3 rfl) ?_
    refine lv_aload_n hx hb dl_19 rfl (lv_at hl 0 rfl) ?_
    refine va_slen hx hb hX hbl hbA hs dl_20 ?_
    refine lv_iconst hx hb dl_21 rfl ?_
    refine lv_isub hx hb dl_22 ?_
    rw [show Int32.ofNat L = Int32.ofInt (L : Int) from (Int32.ofInt_eq_ofNat (n := L)).symm, ← Int32.ofInt_sub]
    refine lv_icmp_gt hx hb dl_23 (tgt := 1431) (by decide) (fun _ => ?_) (fun q => absurd ((i3_lt (show inR ((L : Int) - 5) from ⟨by omega, by omega⟩) (show inR i from ⟨by omega, by omega⟩)).mpr (by omega)) q)
    refine lv_iconst hx hb dl_1431 rfl ?_
    exact W.widen (by omega) (by omega) (va_forget (fun q hq => by have := hs.2.2 q hq; rw [← hB]; exact this) (lw_ret hx hb hret hlk dl_1432))
  | succ f ih =>
    intro i n K M H locs ls cells slots hf hi hi2 h hn hcs hr hs hl
    refine lv_iload_n hx hb dl_18 rfl (lv_at hl 3 rfl) ?_
    refine lv_aload_n hx hb dl_19 rfl (lv_at hl 0 rfl) ?_
    refine va_slen hx hb hX hbl hbA hs dl_20 ?_
    refine lv_iconst hx hb dl_21 rfl ?_
    refine lv_isub hx hb dl_22 ?_
    rw [show Int32.ofNat L = Int32.ofInt (L : Int) from (Int32.ofInt_eq_ofNat (n := L)).symm, ← Int32.ofInt_sub]
    refine lv_icmp_gt hx hb dl_23 (tgt := 1431) (by decide) (fun _ => ?_) (fun q => ?_)
    · refine lv_iconst hx hb dl_1431 rfl ?_
      exact W.widen (by omega) (by omega) (va_forget (fun q hq => by have := hs.2.2 q hq; rw [← hB]; exact this) (lw_ret hx hb hret hlk dl_1432))
    have hle : i + 5 ≤ L := by
      rcases Int.lt_or_le ((L : Int) - 5) i with z | z
      · exact absurd ((i3_lt (show inR ((L : Int) - 5) from ⟨by omega, by omega⟩) (show inR i from ⟨by omega, by omega⟩)).mpr z) q
      · omega
    have hiR : inR i := ⟨by omega, by omega⟩
    have KK : ∀ (n' : Nat) (K' : KK) (M' : MM) (H1 : Heap) (locs1 : List Loc), LK K' M' → n' ≤ n + 3 → 55 ≤ n' → HR G n' K' M' H1 → va_S (mw_own G) s.heap H1 locs1 → W p G.1 e room_1 s m #[Value.ref b] below meth c H1 locs1 (cells + 3) (slots + 25) (lw_Z below #[Value.ref b] s) (F0 m 1425 ls []) := by
      intro n' K' M' H1 locs1 h' hn1 hn2 hr' hs'
      refine lv_iinc (k := 3) (v := Int32.ofInt (i + 5)) (lv' := [(3, .int (Int32.ofInt (i + 5))), (0, .ref b), (1, .ref G.2.2.2), (2, .ref (G.2.2.2 + 36))]) hx hb dl_1425 hl rfl (by rw [Int32.ofInt_add]) (by decide) rfl (fun ls' hl' => ?_)
      refine lv_goto hx hb dl_1428 (tgt := 18) (by decide) ?_
      exact ih (i + 5) n' K' M' H1 locs1 ls' (cells + 3) (slots + 25) (by omega) (by omega) (by omega) h' ⟨hn2, by omega⟩ ⟨by omega, by omega⟩ hr' hs' (lv_sub hl' [1, 2, 3, 0] rfl)
    refine lv_aload_n hx hb dl_26 rfl (lv_at hl 0 rfl) ?_
    refine lv_iload_n hx hb dl_27 rfl (lv_at hl 3 rfl) ?_
    refine va_sld hx hb hX hbl hbA hs (fun z => ?_) dl_28 ?_
    · rcases z with z | z
      · have := (i3_lt hiR (show inR 0 from ⟨by omega, by omega⟩)).mp z
        omega
      · rw [i3_nat hiR] at z; omega
    rw [i3_nat hiR]
    refine lv_bipush (v := 63) hx hb dl_29 rfl ?_
    refine lv_iand hx hb dl_31 ?_
    by_cases hout : (xs i.toNat &&& 63).toInt < 0 ∨ 37 < (xs i.toNat &&& 63).toInt
    · refine lv_tableOut (tgt := 1425) hx hb dl_32 hout (by decide) ?_
      exact W.widen (by omega) (by omega) (KK n K M H locs h (by omega) hn.1 hr hs)
    have hin : (xs i.toNat &&& 63).toInt = 0 ∨ (xs i.toNat &&& 63).toInt = 1 ∨ (xs i.toNat &&& 63).toInt = 2 ∨ (xs i.toNat &&& 63).toInt = 3 ∨ (xs i.toNat &&& 63).toInt = 4 ∨ (xs i.toNat &&& 63).toInt = 5 ∨ (xs i.toNat &&& 63).toInt = 6 ∨ (xs i.toNat &&& 63).toInt = 7 ∨ (xs i.toNat &&& 63).toInt = 8 ∨ (xs i.toNat &&& 63).toInt = 9 ∨ (xs i.toNat &&& 63).toInt = 10 ∨ (xs i.toNat &&& 63).toInt = 11 ∨ (xs i.toNat &&& 63).toInt = 12 ∨ (xs i.toNat &&& 63).toInt = 13 ∨ (xs i.toNat &&& 63).toInt = 14 ∨ (xs i.toNat &&& 63).toInt = 15 ∨ (xs i.toNat &&& 63).toInt = 16 ∨ (xs i.toNat &&& 63).toInt = 17 ∨ (xs i.toNat &&& 63).toInt = 18 ∨ (xs i.toNat &&& 63).toInt = 19 ∨ (xs i.toNat &&& 63).toInt = 20 ∨ (xs i.toNat &&& 63).toInt = 21 ∨ (xs i.toNat &&& 63).toInt = 22 ∨ (xs i.toNat &&& 63).toInt = 23 ∨ (xs i.toNat &&& 63).toInt = 24 ∨ (xs i.toNat &&& 63).toInt = 25 ∨ (xs i.toNat &&& 63).toInt = 26 ∨ (xs i.toNat &&& 63).toInt = 27 ∨ (xs i.toNat &&& 63).toInt = 28 ∨ (xs i.toNat &&& 63).toInt = 29 ∨ (xs i.toNat &&& 63).toInt = 30 ∨ (xs i.toNat &&& 63).toInt = 31 ∨ (xs i.toNat &&& 63).toInt = 32 ∨ (xs i.toNat &&& 63).toInt = 33 ∨ (xs i.toNat &&& 63).toInt = 34 ∨ (xs i.toNat &&& 63).toInt = 35 ∨ (xs i.toNat &&& 63).toInt = 36 ∨ (xs i.toNat &&& 63).toInt = 37 := by omega
    rcases hin with hk | hk | hk | hk | hk | hk | hk | hk | hk | hk | hk | hk | hk | hk | hk | hk | hk | hk | hk | hk | hk | hk | hk | hk | hk | hk | hk | hk | hk | hk | hk | hk | hk | hk | hk | hk | hk | hk
    · refine lv_tableIn (tgt := 200) (off := 168) hx hb dl_32 (by rw [hk]; decide) (by rw [hk]; decide) (by rw [hk]; rfl) (by decide) ?_
      exact law_200 cx hr hs hl ⟨hi, by omega⟩ hL h ⟨hn.1, by omega⟩ ⟨by omega, by omega⟩ KK
    · refine lv_tableIn (tgt := 223) (off := 191) hx hb dl_32 (by rw [hk]; decide) (by rw [hk]; decide) (by rw [hk]; rfl) (by decide) ?_
      exact law_223 cx hr hs hl ⟨hi, by omega⟩ hL h ⟨hn.1, by omega⟩ ⟨by omega, by omega⟩ KK
    · refine lv_tableIn (tgt := 266) (off := 234) hx hb dl_32 (by rw [hk]; decide) (by rw [hk]; decide) (by rw [hk]; rfl) (by decide) ?_
      exact law_266 cx hr hs hl ⟨hi, by omega⟩ hL h ⟨hn.1, by omega⟩ ⟨by omega, by omega⟩ KK
    · refine lv_tableIn (tgt := 289) (off := 257) hx hb dl_32 (by rw [hk]; decide) (by rw [hk]; decide) (by rw [hk]; rfl) (by decide) ?_
      exact law_289 cx hr hs hl ⟨hi, by omega⟩ hL h ⟨hn.1, by omega⟩ ⟨by omega, by omega⟩ KK
    · refine lv_tableIn (tgt := 322) (off := 290) hx hb dl_32 (by rw [hk]; decide) (by rw [hk]; decide) (by rw [hk]; rfl) (by decide) ?_
      exact law_322 cx hr hs hl ⟨hi, by omega⟩ hL h ⟨hn.1, by omega⟩ ⟨by omega, by omega⟩ KK
    · refine lv_tableIn (tgt := 355) (off := 323) hx hb dl_32 (by rw [hk]; decide) (by rw [hk]; decide) (by rw [hk]; rfl) (by decide) ?_
      exact law_355 cx hr hs hl ⟨hi, by omega⟩ hL h ⟨hn.1, by omega⟩ ⟨by omega, by omega⟩ KK
    · refine lv_tableIn (tgt := 388) (off := 356) hx hb dl_32 (by rw [hk]; decide) (by rw [hk]; decide) (by rw [hk]; rfl) (by decide) ?_
      exact law_388 cx hr hs hl ⟨hi, by omega⟩ hL h ⟨hn.1, by omega⟩ ⟨by omega, by omega⟩ KK
    · refine lv_tableIn (tgt := 411) (off := 379) hx hb dl_32 (by rw [hk]; decide) (by rw [hk]; decide) (by rw [hk]; rfl) (by decide) ?_
      exact law_411 cx hr hs hl ⟨hi, by omega⟩ hL h ⟨hn.1, by omega⟩ ⟨by omega, by omega⟩ KK
    · refine lv_tableIn (tgt := 434) (off := 402) hx hb dl_32 (by rw [hk]; decide) (by rw [hk]; decide) (by rw [hk]; rfl) (by decide) ?_
      exact law_434 cx hr hs hl ⟨hi, by omega⟩ hL h ⟨hn.1, by omega⟩ ⟨by omega, by omega⟩ KK
    · refine lv_tableIn (tgt := 457) (off := 425) hx hb dl_32 (by rw [hk]; decide) (by rw [hk]; decide) (by rw [hk]; rfl) (by decide) ?_
      exact law_457 cx hr hs hl ⟨hi, by omega⟩ hL h ⟨hn.1, by omega⟩ ⟨by omega, by omega⟩ KK
    · refine lv_tableIn (tgt := 490) (off := 458) hx hb dl_32 (by rw [hk]; decide) (by rw [hk]; decide) (by rw [hk]; rfl) (by decide) ?_
      exact law_490 cx hr hs hl ⟨hi, by omega⟩ hL h ⟨hn.1, by omega⟩ ⟨by omega, by omega⟩ KK
    · refine lv_tableIn (tgt := 503) (off := 471) hx hb dl_32 (by rw [hk]; decide) (by rw [hk]; decide) (by rw [hk]; rfl) (by decide) ?_
      exact law_503 cx hr hs hl ⟨hi, by omega⟩ hL h ⟨hn.1, by omega⟩ ⟨by omega, by omega⟩ KK
    · refine lv_tableIn (tgt := 536) (off := 504) hx hb dl_32 (by rw [hk]; decide) (by rw [hk]; decide) (by rw [hk]; rfl) (by decide) ?_
      exact law_536 cx hr hs hl ⟨hi, by omega⟩ hL h ⟨hn.1, by omega⟩ ⟨by omega, by omega⟩ KK
    · refine lv_tableIn (tgt := 559) (off := 527) hx hb dl_32 (by rw [hk]; decide) (by rw [hk]; decide) (by rw [hk]; rfl) (by decide) ?_
      exact law_559 cx hr hs hl ⟨hi, by omega⟩ hL h ⟨hn.1, by omega⟩ ⟨by omega, by omega⟩ KK
    · refine lv_tableIn (tgt := 602) (off := 570) hx hb dl_32 (by rw [hk]; decide) (by rw [hk]; decide) (by rw [hk]; rfl) (by decide) ?_
      exact law_602 cx hr hs hl ⟨hi, by omega⟩ hL h ⟨hn.1, by omega⟩ ⟨by omega, by omega⟩ KK
    · refine lv_tableIn (tgt := 625) (off := 593) hx hb dl_32 (by rw [hk]; decide) (by rw [hk]; decide) (by rw [hk]; rfl) (by decide) ?_
      exact law_625 cx hr hs hl ⟨hi, by omega⟩ hL h ⟨hn.1, by omega⟩ ⟨by omega, by omega⟩ KK
    · refine lv_tableIn (tgt := 668) (off := 636) hx hb dl_32 (by rw [hk]; decide) (by rw [hk]; decide) (by rw [hk]; rfl) (by decide) ?_
      exact law_668 cx hr hs hl ⟨hi, by omega⟩ hL h ⟨hn.1, by omega⟩ ⟨by omega, by omega⟩ KK
    · refine lv_tableIn (tgt := 701) (off := 669) hx hb dl_32 (by rw [hk]; decide) (by rw [hk]; decide) (by rw [hk]; rfl) (by decide) ?_
      exact law_701 cx hr hs hl ⟨hi, by omega⟩ hL h ⟨hn.1, by omega⟩ ⟨by omega, by omega⟩ KK
    · refine lv_tableIn (tgt := 744) (off := 712) hx hb dl_32 (by rw [hk]; decide) (by rw [hk]; decide) (by rw [hk]; rfl) (by decide) ?_
      exact law_744 cx hr hs hl ⟨hi, by omega⟩ hL h ⟨hn.1, by omega⟩ ⟨by omega, by omega⟩ KK
    · refine lv_tableIn (tgt := 787) (off := 755) hx hb dl_32 (by rw [hk]; decide) (by rw [hk]; decide) (by rw [hk]; rfl) (by decide) ?_
      exact law_787 cx hr hs hl ⟨hi, by omega⟩ hL h ⟨hn.1, by omega⟩ ⟨by omega, by omega⟩ KK
    · refine lv_tableIn (tgt := 821) (off := 789) hx hb dl_32 (by rw [hk]; decide) (by rw [hk]; decide) (by rw [hk]; rfl) (by decide) ?_
      exact law_821 cx hr hs hl ⟨hi, by omega⟩ hL h ⟨hn.1, by omega⟩ ⟨by omega, by omega⟩ KK
    · refine lv_tableIn (tgt := 844) (off := 812) hx hb dl_32 (by rw [hk]; decide) (by rw [hk]; decide) (by rw [hk]; rfl) (by decide) ?_
      exact law_844 cx hr hs hl ⟨hi, by omega⟩ hL h ⟨hn.1, by omega⟩ ⟨by omega, by omega⟩ KK
    · refine lv_tableIn (tgt := 887) (off := 855) hx hb dl_32 (by rw [hk]; decide) (by rw [hk]; decide) (by rw [hk]; rfl) (by decide) ?_
      exact law_887 cx hr hs hl ⟨hi, by omega⟩ hL h ⟨hn.1, by omega⟩ ⟨by omega, by omega⟩ KK
    · refine lv_tableIn (tgt := 930) (off := 898) hx hb dl_32 (by rw [hk]; decide) (by rw [hk]; decide) (by rw [hk]; rfl) (by decide) ?_
      exact law_930 cx hr hs hl ⟨hi, by omega⟩ hL h ⟨hn.1, by omega⟩ ⟨by omega, by omega⟩ KK
    · refine lv_tableIn (tgt := 983) (off := 951) hx hb dl_32 (by rw [hk]; decide) (by rw [hk]; decide) (by rw [hk]; rfl) (by decide) ?_
      exact law_983 cx hr hs hl ⟨hi, by omega⟩ hL h ⟨hn.1, by omega⟩ ⟨by omega, by omega⟩ KK
    · refine lv_tableIn (tgt := 1006) (off := 974) hx hb dl_32 (by rw [hk]; decide) (by rw [hk]; decide) (by rw [hk]; rfl) (by decide) ?_
      exact law_1006 cx hr hs hl ⟨hi, by omega⟩ hL h ⟨hn.1, by omega⟩ ⟨by omega, by omega⟩ KK
    · refine lv_tableIn (tgt := 1029) (off := 997) hx hb dl_32 (by rw [hk]; decide) (by rw [hk]; decide) (by rw [hk]; rfl) (by decide) ?_
      exact law_1029 cx hr hs hl ⟨hi, by omega⟩ hL h ⟨hn.1, by omega⟩ ⟨by omega, by omega⟩ KK
    · refine lv_tableIn (tgt := 1072) (off := 1040) hx hb dl_32 (by rw [hk]; decide) (by rw [hk]; decide) (by rw [hk]; rfl) (by decide) ?_
      exact law_1072 cx hr hs hl ⟨hi, by omega⟩ hL h ⟨hn.1, by omega⟩ ⟨by omega, by omega⟩ KK
    · refine lv_tableIn (tgt := 1105) (off := 1073) hx hb dl_32 (by rw [hk]; decide) (by rw [hk]; decide) (by rw [hk]; rfl) (by decide) ?_
      exact law_1105 cx hr hs hl ⟨hi, by omega⟩ hL h ⟨hn.1, by omega⟩ ⟨by omega, by omega⟩ KK
    · refine lv_tableIn (tgt := 1118) (off := 1086) hx hb dl_32 (by rw [hk]; decide) (by rw [hk]; decide) (by rw [hk]; rfl) (by decide) ?_
      exact law_1118 cx hr hs hl ⟨hi, by omega⟩ hL h ⟨hn.1, by omega⟩ ⟨by omega, by omega⟩ KK
    · refine lv_tableIn (tgt := 1141) (off := 1109) hx hb dl_32 (by rw [hk]; decide) (by rw [hk]; decide) (by rw [hk]; rfl) (by decide) ?_
      exact law_1141 cx hr hs hl ⟨hi, by omega⟩ hL h ⟨hn.1, by omega⟩ ⟨by omega, by omega⟩ KK
    · refine lv_tableIn (tgt := 1164) (off := 1132) hx hb dl_32 (by rw [hk]; decide) (by rw [hk]; decide) (by rw [hk]; rfl) (by decide) ?_
      exact law_1164 cx hr hs hl ⟨hi, by omega⟩ hL h ⟨hn.1, by omega⟩ ⟨by omega, by omega⟩ KK
    · refine lv_tableIn (tgt := 1207) (off := 1175) hx hb dl_32 (by rw [hk]; decide) (by rw [hk]; decide) (by rw [hk]; rfl) (by decide) ?_
      exact law_1207 cx hr hs hl ⟨hi, by omega⟩ hL h ⟨hn.1, by omega⟩ ⟨by omega, by omega⟩ KK
    · refine lv_tableIn (tgt := 1230) (off := 1198) hx hb dl_32 (by rw [hk]; decide) (by rw [hk]; decide) (by rw [hk]; rfl) (by decide) ?_
      exact law_1230 cx hr hs hl ⟨hi, by omega⟩ hL h ⟨hn.1, by omega⟩ ⟨by omega, by omega⟩ KK
    · refine lv_tableIn (tgt := 1273) (off := 1241) hx hb dl_32 (by rw [hk]; decide) (by rw [hk]; decide) (by rw [hk]; rfl) (by decide) ?_
      exact law_1273 cx hr hs hl ⟨hi, by omega⟩ hL h ⟨hn.1, by omega⟩ ⟨by omega, by omega⟩ KK
    · refine lv_tableIn (tgt := 1316) (off := 1284) hx hb dl_32 (by rw [hk]; decide) (by rw [hk]; decide) (by rw [hk]; rfl) (by decide) ?_
      exact law_1316 cx hr hs hl ⟨hi, by omega⟩ hL h ⟨hn.1, by omega⟩ ⟨by omega, by omega⟩ KK
    · refine lv_tableIn (tgt := 1369) (off := 1337) hx hb dl_32 (by rw [hk]; decide) (by rw [hk]; decide) (by rw [hk]; rfl) (by decide) ?_
      exact law_1369 cx hr hs hl ⟨hi, by omega⟩ hL h ⟨hn.1, by omega⟩ ⟨by omega, by omega⟩ KK
    · refine lv_tableIn (tgt := 1412) (off := 1380) hx hb dl_32 (by rw [hk]; decide) (by rw [hk]; decide) (by rw [hk]; rfl) (by decide) ?_
      exact law_1412 cx hr hs hl ⟨hi, by omega⟩ hL h ⟨hn.1, by omega⟩ ⟨by omega, by omega⟩ KK

