section MWX
variable {G : GG} {mi : MI} {R : Room} {Z : ZZ} {cs : Nat × Nat} {pc : Nat} {lc : LL} {r : List VV} {n : Nat} {K : KK} {M : MM}
theorem x_iconst {v : Int} (hv : inR v) (hd : decode mi.2.1 pc = .ok (.iconst v, 1)) (kk : MW G mi R Z cs (pc + 1) (lc) ((0, v) :: r) n K M) : MW G mi R Z cs pc lc (r) n K M := by
  intro p e s m args below meth c H locs ls cx hr hs hl hlo hso
  obtain ⟨hx, hb, hml, hown, hts, hlk, hret, hnm, hK, hbs⟩ := id cx
  have k := kk p e s m args below meth c H locs ls cx hr hs hl hlo (List.forall_mem_cons.mpr ⟨hv, hso⟩)
  refine lv_iconst (v := Int32.ofInt v) hx hb hd rfl ?_
  exact k
theorem i8_to {v : Int} (h : -128 ≤ v ∧ v < 128) : (Int8.ofInt v).toInt32 = Int32.ofInt v := by
  rw [← Int32.ofInt_int8ToInt, Int8.toInt_ofInt_of_le h.1 h.2]
theorem i16_to {v : Int} (h : -32768 ≤ v ∧ v < 32768) : (Int16.ofInt v).toInt32 = Int32.ofInt v := by
  rw [← Int32.ofInt_int16ToInt, Int16.toInt_ofInt_of_le h.1 h.2]
theorem x_bipush {v : Int} (hv : -128 ≤ v ∧ v < 128) (hd : decode mi.2.1 pc = .ok (.bipush v, 2)) (kk : MW G mi R Z cs (pc + 2) (lc) ((0, v) :: r) n K M) : MW G mi R Z cs pc lc (r) n K M := by
  intro p e s m args below meth c H locs ls cx hr hs hl hlo hso
  obtain ⟨hx, hb, hml, hown, hts, hlk, hret, hnm, hK, hbs⟩ := id cx
  have k := kk p e s m args below meth c H locs ls cx hr hs hl hlo (List.forall_mem_cons.mpr ⟨show inR v from ⟨by omega, by omega⟩, hso⟩)
  refine lv_bipush (v := Int32.ofInt v) hx hb hd (i8_to hv) ?_
  exact k
theorem x_sipush {v : Int} (hv : -32768 ≤ v ∧ v < 32768) (hd : decode mi.2.1 pc = .ok (.sipush v, 3)) (kk : MW G mi R Z cs (pc + 3) (lc) ((0, v) :: r) n K M) : MW G mi R Z cs pc lc (r) n K M := by
  intro p e s m args below meth c H locs ls cx hr hs hl hlo hso
  obtain ⟨hx, hb, hml, hown, hts, hlk, hret, hnm, hK, hbs⟩ := id cx
  have k := kk p e s m args below meth c H locs ls cx hr hs hl hlo (List.forall_mem_cons.mpr ⟨show inR v from ⟨by omega, by omega⟩, hso⟩)
  refine lv_sipush (v := Int32.ofInt v) hx hb hd (i16_to hv) ?_
  exact k
theorem x_lconst {v : Fin 2} (hd : decode mi.2.1 pc = .ok (.lconst v, 1)) (kk : MW G mi R Z cs (pc + 1) (lc) ((2, ((v : Nat) : Int)) :: r) n K M) : MW G mi R Z cs pc lc (r) n K M := by
  intro p e s m args below meth c H locs ls cx hr hs hl hlo hso
  obtain ⟨hx, hb, hml, hown, hts, hlk, hret, hnm, hK, hbs⟩ := id cx
  have k := kk p e s m args below meth c H locs ls cx hr hs hl hlo (List.forall_mem_cons.mpr ⟨show inL _ from ⟨by omega, by omega⟩, hso⟩)
  refine lv_lconst (v := Int64.ofInt ((v : Nat) : Int)) hx hb hd Int64.ofInt_eq_ofNat.symm ?_
  exact k
theorem x_null  (hd : decode mi.2.1 pc = .ok (.aconst_null, 1)) (kk : MW G mi R Z cs (pc + 1) (lc) ((1, -1) :: r) n K M) : MW G mi R Z cs pc lc (r) n K M := by
  intro p e s m args below meth c H locs ls cx hr hs hl hlo hso
  obtain ⟨hx, hb, hml, hown, hts, hlk, hret, hnm, hK, hbs⟩ := id cx
  have k := kk p e s m args below meth c H locs ls cx hr hs hl hlo (List.forall_mem_cons.mpr ⟨show inR (-1) from ⟨by omega, by omega⟩, hso⟩)
  refine lv_null hx hb hd ?_
  exact k
theorem x_iload {i : Nat} {x : Int} (hd : decode mi.2.1 pc = .ok (.iload i, 2)) (hk : lk i lc = some (0, x)) (kk : MW G mi R Z cs (pc + 2) (lc) ((0, x) :: r) n K M) : MW G mi R Z cs pc lc (r) n K M := by
  intro p e s m args below meth c H locs ls cx hr hs hl hlo hso
  obtain ⟨hx, hb, hml, hown, hts, hlk, hret, hnm, hK, hbs⟩ := id cx
  have k := kk p e s m args below meth c H locs ls cx hr hs hl hlo (List.forall_mem_cons.mpr ⟨hlo _ (lk_mem hk), hso⟩)
  exact lv_iload hx hb hd (rL_at hl hk) k
theorem x_iload_n {i : Fin 4} {x : Int} (hd : decode mi.2.1 pc = .ok (.iload_n i, 1)) (hk : lk (i : Nat) lc = some (0, x)) (kk : MW G mi R Z cs (pc + 1) (lc) ((0, x) :: r) n K M) : MW G mi R Z cs pc lc (r) n K M := by
  intro p e s m args below meth c H locs ls cx hr hs hl hlo hso
  obtain ⟨hx, hb, hml, hown, hts, hlk, hret, hnm, hK, hbs⟩ := id cx
  have k := kk p e s m args below meth c H locs ls cx hr hs hl hlo (List.forall_mem_cons.mpr ⟨hlo _ (lk_mem hk), hso⟩)
  exact lv_iload_n hx hb hd rfl (rL_at hl hk) k
theorem x_lload {i : Nat} {x : Int} (hd : decode mi.2.1 pc = .ok (.lload i, 2)) (hk : lk i lc = some (2, x)) (kk : MW G mi R Z cs (pc + 2) (lc) ((2, x) :: r) n K M) : MW G mi R Z cs pc lc (r) n K M := by
  intro p e s m args below meth c H locs ls cx hr hs hl hlo hso
  obtain ⟨hx, hb, hml, hown, hts, hlk, hret, hnm, hK, hbs⟩ := id cx
  have k := kk p e s m args below meth c H locs ls cx hr hs hl hlo (List.forall_mem_cons.mpr ⟨hlo _ (lk_mem hk), hso⟩)
  exact lv_lload hx hb hd (rL_at hl hk) k
theorem x_lload_n {i : Fin 4} {x : Int} (hd : decode mi.2.1 pc = .ok (.lload_n i, 1)) (hk : lk (i : Nat) lc = some (2, x)) (kk : MW G mi R Z cs (pc + 1) (lc) ((2, x) :: r) n K M) : MW G mi R Z cs pc lc (r) n K M := by
  intro p e s m args below meth c H locs ls cx hr hs hl hlo hso
  obtain ⟨hx, hb, hml, hown, hts, hlk, hret, hnm, hK, hbs⟩ := id cx
  have k := kk p e s m args below meth c H locs ls cx hr hs hl hlo (List.forall_mem_cons.mpr ⟨hlo _ (lk_mem hk), hso⟩)
  exact lv_lload_n hx hb hd rfl (rL_at hl hk) k
theorem lv_aload0 {p : Program} {l : Launch} {e : Env} {R : Room} {s : State} {m : MethodId} {args : Array Value} {below : List Frame} {meth : Method} {c : Code} {H : Heap} {locs : List Loc} {cells slots : Nat} {Q : State → Prop} {cc : ByteArray} {pc : Nat} {ls : Array Slot} {rest : List Value} (hexec : p.tables.exec = Jvm.exec) (hb : c.code = cc) {i : Nat} (hdg : decode cc pc = .ok (.aload i, 2)) (hl : ls[i]? = some (.val .null))
    (k : W p l e R s m args below meth c H locs cells slots Q (F0 m (pc + 2) ls (.null :: rest))) : W p l e R s m args below meth c H locs cells slots Q (F0 m pc ls rest) := by
  intro T hT X
  obtain ⟨t, a, b⟩ := k T hT X
  refine ⟨t, ?_, b⟩
  jvm_step X.here [X.here.top, hexec, hb, hdg, hl]
  exact ⟨rfl, a⟩
theorem lv_aload0_n {p : Program} {l : Launch} {e : Env} {R : Room} {s : State} {m : MethodId} {args : Array Value} {below : List Frame} {meth : Method} {c : Code} {H : Heap} {locs : List Loc} {cells slots : Nat} {Q : State → Prop} {cc : ByteArray} {pc : Nat} {ls : Array Slot} {rest : List Value} (hexec : p.tables.exec = Jvm.exec) (hb : c.code = cc) {i : Fin 4} (hdg : decode cc pc = .ok (.aload_n i, 1)) (hl : ls[(i : Nat)]? = some (.val .null))
    (k : W p l e R s m args below meth c H locs cells slots Q (F0 m (pc + 1) ls (.null :: rest))) : W p l e R s m args below meth c H locs cells slots Q (F0 m pc ls rest) := by
  intro T hT X
  obtain ⟨t, a, b⟩ := k T hT X
  refine ⟨t, ?_, b⟩
  jvm_step X.here [X.here.top, hexec, hb, hdg, hl]
  exact ⟨rfl, a⟩
theorem x_aload {i : Nat} {x : Int} (hd : decode mi.2.1 pc = .ok (.aload i, 2)) (hk : lk (i : Nat) lc = some (1, x)) (kk : MW G mi R Z cs (pc + 2) (lc) ((1, x) :: r) n K M) : MW G mi R Z cs pc lc (r) n K M := by
  intro p e s m args below meth c H locs ls cx hr hs hl hlo hso
  obtain ⟨hx, hb, hml, hown, hts, hlk, hret, hnm, hK, hbs⟩ := id cx
  have k := kk p e s m args below meth c H locs ls cx hr hs hl hlo (List.forall_mem_cons.mpr ⟨hlo _ (lk_mem hk), hso⟩)
  have hat := rL_at hl hk
  by_cases hx0 : x < 0
  · rw [List.map_cons, rv_n hx0] at k
    rw [rv_n hx0] at hat
    exact lv_aload0 hx hb hd hat k
  · rw [List.map_cons, rv_r (by omega)] at k
    rw [rv_r (by omega)] at hat
    exact lv_aload hx hb hd hat k
theorem x_aload_n {i : Fin 4} {x : Int} (hd : decode mi.2.1 pc = .ok (.aload_n i, 1)) (hk : lk (i : Nat) lc = some (1, x)) (kk : MW G mi R Z cs (pc + 1) (lc) ((1, x) :: r) n K M) : MW G mi R Z cs pc lc (r) n K M := by
  intro p e s m args below meth c H locs ls cx hr hs hl hlo hso
  obtain ⟨hx, hb, hml, hown, hts, hlk, hret, hnm, hK, hbs⟩ := id cx
  have k := kk p e s m args below meth c H locs ls cx hr hs hl hlo (List.forall_mem_cons.mpr ⟨hlo _ (lk_mem hk), hso⟩)
  have hat := rL_at hl hk
  by_cases hx0 : x < 0
  · rw [List.map_cons, rv_n hx0] at k
    rw [rv_n hx0] at hat
    exact lv_aload0_n hx hb hd hat k
  · rw [List.map_cons, rv_r (by omega)] at k
    rw [rv_r (by omega)] at hat
    exact lv_aload_n hx hb hd rfl hat k
theorem x_istore {i : Nat} {x : Int} (hd : decode mi.2.1 pc = .ok (.istore i, 2)) (hn : (i : Nat) < mi.2.2.2.1) (kk : MW G mi R Z cs (pc + 2) (sl1 (i : Nat) (0, x) lc) (r) n K M) : MW G mi R Z cs pc lc ((0, x) :: r) n K M := by
  intro p e s m args below meth c H locs ls cx hr hs hl hlo hso
  obtain ⟨hx, hb, hml, hown, hts, hlk, hret, hnm, hK, hbs⟩ := id cx
  have hv : okV (0, x) := (List.forall_mem_cons.mp hso).1
  have hso' := (List.forall_mem_cons.mp hso).2
  refine lv_istore hx hb hd hl hn rfl (fun ls' hl' => ?_)
  rw [rL_filter1] at hl'
  exact kk p e s m args below meth c H locs ls' cx hr hs hl' (ok_sl1 hv hlo) hso'
theorem x_istore_n {i : Fin 4} {x : Int} (hd : decode mi.2.1 pc = .ok (.istore_n i, 1)) (hn : (i : Nat) < mi.2.2.2.1) (kk : MW G mi R Z cs (pc + 1) (sl1 (i : Nat) (0, x) lc) (r) n K M) : MW G mi R Z cs pc lc ((0, x) :: r) n K M := by
  intro p e s m args below meth c H locs ls cx hr hs hl hlo hso
  obtain ⟨hx, hb, hml, hown, hts, hlk, hret, hnm, hK, hbs⟩ := id cx
  have hv : okV (0, x) := (List.forall_mem_cons.mp hso).1
  have hso' := (List.forall_mem_cons.mp hso).2
  refine lv_istore_n hx hb hd rfl hl hn rfl (fun ls' hl' => ?_)
  rw [rL_filter1] at hl'
  exact kk p e s m args below meth c H locs ls' cx hr hs hl' (ok_sl1 hv hlo) hso'
theorem x_lstore {i : Nat} {x : Int} (hd : decode mi.2.1 pc = .ok (.lstore i, 2)) (hn : (i : Nat) + 1 < mi.2.2.2.1) (kk : MW G mi R Z cs (pc + 2) (sl2 (i : Nat) (2, x) lc) (r) n K M) : MW G mi R Z cs pc lc ((2, x) :: r) n K M := by
  intro p e s m args below meth c H locs ls cx hr hs hl hlo hso
  obtain ⟨hx, hb, hml, hown, hts, hlk, hret, hnm, hK, hbs⟩ := id cx
  have hv : okV (2, x) := (List.forall_mem_cons.mp hso).1
  have hso' := (List.forall_mem_cons.mp hso).2
  refine lv_lstore hx hb hd hl hn rfl (fun ls' hl' => ?_)
  rw [rL_filter2] at hl'
  exact kk p e s m args below meth c H locs ls' cx hr hs hl' (ok_sl2 hv hlo) hso'
theorem x_lstore_n {i : Fin 4} {x : Int} (hd : decode mi.2.1 pc = .ok (.lstore_n i, 1)) (hn : (i : Nat) + 1 < mi.2.2.2.1) (kk : MW G mi R Z cs (pc + 1) (sl2 (i : Nat) (2, x) lc) (r) n K M) : MW G mi R Z cs pc lc ((2, x) :: r) n K M := by
  intro p e s m args below meth c H locs ls cx hr hs hl hlo hso
  obtain ⟨hx, hb, hml, hown, hts, hlk, hret, hnm, hK, hbs⟩ := id cx
  have hv : okV (2, x) := (List.forall_mem_cons.mp hso).1
  have hso' := (List.forall_mem_cons.mp hso).2
  refine lv_lstore_n hx hb hd rfl hl hn rfl (fun ls' hl' => ?_)
  rw [rL_filter2] at hl'
  exact kk p e s m args below meth c H locs ls' cx hr hs hl' (ok_sl2 hv hlo) hso'
theorem lv_astore0 {p : Program} {l : Launch} {e : Env} {R : Room} {s : State} {m : MethodId} {args : Array Value} {below : List Frame} {meth : Method} {c : Code} {H : Heap} {locs : List Loc} {cells slots : Nat} {Q : State → Prop} {cc : ByteArray} {pc : Nat} {ls : Array Slot} {rest : List Value} (hexec : p.tables.exec = Jvm.exec) (hb : c.code = cc) {i nL : Nat} {lv lv' : List (Nat × Value)} (hdg : decode cc pc = .ok (.astore i, 2)) (h : lv_has ls nL lv) (hn : i < nL) (hl : (i, Value.null) :: lv.filter (fun q => !(q.1 == i) && !(q.1 + 1 == i && q.2.category == 2)) = lv')
    (kk : ∀ ls' : Array Slot, lv_has ls' nL lv' → W p l e R s m args below meth c H locs cells slots Q (F0 m (pc + 2) ls' rest)) : W p l e R s m args below meth c H locs cells slots Q (F0 m pc ls (.null :: rest)) := by
  obtain ⟨ls', e', h'⟩ := lv_store1 (v := .null) h hn rfl
  intro T hT X
  obtain ⟨t, a, b⟩ := kk ls' (hl ▸ h') T hT X
  refine ⟨t, ?_, b⟩
  jvm_step X.here [X.here.top, ↓top_set X.here.top, hexec, hb, hdg, e']
  exact ⟨rfl, a⟩
theorem lv_astore0_n {p : Program} {l : Launch} {e : Env} {R : Room} {s : State} {m : MethodId} {args : Array Value} {below : List Frame} {meth : Method} {c : Code} {H : Heap} {locs : List Loc} {cells slots : Nat} {Q : State → Prop} {cc : ByteArray} {pc : Nat} {ls : Array Slot} {rest : List Value} (hexec : p.tables.exec = Jvm.exec) (hb : c.code = cc) {i : Fin 4} {nL : Nat} {lv lv' : List (Nat × Value)} (hdg : decode cc pc = .ok (.astore_n i, 1)) (h : lv_has ls nL lv) (hn : (i : Nat) < nL) (hl : ((i : Nat), Value.null) :: lv.filter (fun q => !(q.1 == (i : Nat)) && !(q.1 + 1 == (i : Nat) && q.2.category == 2)) = lv')
    (kk : ∀ ls' : Array Slot, lv_has ls' nL lv' → W p l e R s m args below meth c H locs cells slots Q (F0 m (pc + 1) ls' rest)) : W p l e R s m args below meth c H locs cells slots Q (F0 m pc ls (.null :: rest)) := by
  obtain ⟨ls', e', h'⟩ := lv_store1 (v := .null) h hn rfl
  intro T hT X
  obtain ⟨t, a, b⟩ := kk ls' (hl ▸ h') T hT X
  refine ⟨t, ?_, b⟩
  jvm_step X.here [X.here.top, ↓top_set X.here.top, hexec, hb, hdg, e']
  exact ⟨rfl, a⟩
theorem x_astore {i : Nat} {x : Int} (hd : decode mi.2.1 pc = .ok (.astore i, 2)) (hn : (i : Nat) < mi.2.2.2.1) (kk : MW G mi R Z cs (pc + 2) (sl1 (i : Nat) (1, x) lc) (r) n K M) : MW G mi R Z cs pc lc ((1, x) :: r) n K M := by
  intro p e s m args below meth c H locs ls cx hr hs hl hlo hso
  obtain ⟨hx, hb, hml, hown, hts, hlk, hret, hnm, hK, hbs⟩ := id cx
  have hv : okV (1, x) := (List.forall_mem_cons.mp hso).1
  have hso' := (List.forall_mem_cons.mp hso).2
  by_cases hx0 : x < 0
  · rw [List.map_cons, rv_n hx0]
    refine lv_astore0 hx hb hd hl hn rfl (fun ls' hl' => ?_)
    rw [rL_filter1, ← rv_n (b := G.2.2.2) hx0] at hl'
    exact kk p e s m args below meth c H locs ls' cx hr hs hl' (ok_sl1 hv hlo) hso'
  · rw [List.map_cons, rv_r (by omega)]
    refine lv_astore hx hb hd hl hn rfl (fun ls' hl' => ?_)
    rw [rL_filter1, ← rv_r (b := G.2.2.2) (Int.not_lt.mp hx0)] at hl'
    exact kk p e s m args below meth c H locs ls' cx hr hs hl' (ok_sl1 hv hlo) hso'
theorem x_astore_n {i : Fin 4} {x : Int} (hd : decode mi.2.1 pc = .ok (.astore_n i, 1)) (hn : (i : Nat) < mi.2.2.2.1) (kk : MW G mi R Z cs (pc + 1) (sl1 (i : Nat) (1, x) lc) (r) n K M) : MW G mi R Z cs pc lc ((1, x) :: r) n K M := by
  intro p e s m args below meth c H locs ls cx hr hs hl hlo hso
  obtain ⟨hx, hb, hml, hown, hts, hlk, hret, hnm, hK, hbs⟩ := id cx
  have hv : okV (1, x) := (List.forall_mem_cons.mp hso).1
  have hso' := (List.forall_mem_cons.mp hso).2
  by_cases hx0 : x < 0
  · rw [List.map_cons, rv_n hx0]
    refine lv_astore0_n hx hb hd hl hn rfl (fun ls' hl' => ?_)
    rw [rL_filter1, ← rv_n (b := G.2.2.2) hx0] at hl'
    exact kk p e s m args below meth c H locs ls' cx hr hs hl' (ok_sl1 hv hlo) hso'
  · rw [List.map_cons, rv_r (by omega)]
    refine lv_astore_n hx hb hd rfl hl hn rfl (fun ls' hl' => ?_)
    rw [rL_filter1, ← rv_r (b := G.2.2.2) (Int.not_lt.mp hx0)] at hl'
    exact kk p e s m args below meth c H locs ls' cx hr hs hl' (ok_sl1 hv hlo) hso'
theorem x_iinc {i : Nat} {w : Bool} {x v : Int} (hd : decode mi.2.1 pc = .ok (.iinc i v, 3)) (hk : lk i lc = some (0, x)) (hn : i < mi.2.2.2.1) (hw : wP w (x + v)) (kk : MW G mi R Z cs (pc + 3) (sl1 i (0, wI w (x + v)) lc) (r) n K M) : MW G mi R Z cs pc lc (r) n K M := by
  intro p e s m args below meth c H locs ls cx hr hs hl hlo hso
  obtain ⟨hx, hb, hml, hown, hts, hlk, hret, hnm, hK, hbs⟩ := id cx
  obtain ⟨k, hk'⟩ := List.getElem?_of_mem (List.mem_map.mpr ⟨(i, ((0, x) : VV)), lk_mem hk, rfl⟩ : (i, rv G.2.2.2 (0, x)) ∈ rL G.2.2.2 lc)
  refine lv_iinc (v := Int32.ofInt (wI w (x + v))) hx hb hd hl hk' (by rw [wI_eq, Int32.ofInt_add]) hn rfl (fun ls' hl' => ?_)
  rw [rL_filter1] at hl'
  exact kk p e s m args below meth c H locs ls' cx hr hs hl' (ok_sl1 (wI_ok hw) hlo) hso
theorem x_iadd {x y : Int} {w : Bool} (hw : wP w (x + y)) (hd : decode mi.2.1 pc = .ok (.iadd, 1)) (kk : MW G mi R Z cs (pc + 1) (lc) ((0, wI w (x + y)) :: r) n K M) : MW G mi R Z cs pc lc ((0, y) :: (0, x) :: r) n K M := by
  intro p e s m args below meth c H locs ls cx hr hs hl hlo hso
  obtain ⟨hx, hb, hml, hown, hts, hlk, hret, hnm, hK, hbs⟩ := id cx
  have hy : inR y := (List.forall_mem_cons.mp hso).1
  have hx1 : inR x := (List.forall_mem_cons.mp (List.forall_mem_cons.mp hso).2).1
  have hso' := (List.forall_mem_cons.mp (List.forall_mem_cons.mp hso).2).2
  have k := kk p e s m args below meth c H locs ls cx hr hs hl hlo (List.forall_mem_cons.mpr ⟨wI_ok hw, hso'⟩)
  refine lv_iadd hx hb hd ?_
  rw [List.map_cons, rv_i, wI_eq, Int32.ofInt_add] at k
  exact k
theorem x_isub {x y : Int} {w : Bool} (hw : wP w (x - y)) (hd : decode mi.2.1 pc = .ok (.isub, 1)) (kk : MW G mi R Z cs (pc + 1) (lc) ((0, wI w (x - y)) :: r) n K M) : MW G mi R Z cs pc lc ((0, y) :: (0, x) :: r) n K M := by
  intro p e s m args below meth c H locs ls cx hr hs hl hlo hso
  obtain ⟨hx, hb, hml, hown, hts, hlk, hret, hnm, hK, hbs⟩ := id cx
  have hy : inR y := (List.forall_mem_cons.mp hso).1
  have hx1 : inR x := (List.forall_mem_cons.mp (List.forall_mem_cons.mp hso).2).1
  have hso' := (List.forall_mem_cons.mp (List.forall_mem_cons.mp hso).2).2
  have k := kk p e s m args below meth c H locs ls cx hr hs hl hlo (List.forall_mem_cons.mpr ⟨wI_ok hw, hso'⟩)
  refine lv_isub hx hb hd ?_
  rw [List.map_cons, rv_i, wI_eq, Int32.ofInt_sub] at k
  exact k
theorem x_imul {x y : Int} {w : Bool} (hw : wP w (x * y)) (hd : decode mi.2.1 pc = .ok (.imul, 1)) (kk : MW G mi R Z cs (pc + 1) (lc) ((0, wI w (x * y)) :: r) n K M) : MW G mi R Z cs pc lc ((0, y) :: (0, x) :: r) n K M := by
  intro p e s m args below meth c H locs ls cx hr hs hl hlo hso
  obtain ⟨hx, hb, hml, hown, hts, hlk, hret, hnm, hK, hbs⟩ := id cx
  have hy : inR y := (List.forall_mem_cons.mp hso).1
  have hx1 : inR x := (List.forall_mem_cons.mp (List.forall_mem_cons.mp hso).2).1
  have hso' := (List.forall_mem_cons.mp (List.forall_mem_cons.mp hso).2).2
  have k := kk p e s m args below meth c H locs ls cx hr hs hl hlo (List.forall_mem_cons.mpr ⟨wI_ok hw, hso'⟩)
  refine lv_imul hx hb hd ?_
  rw [List.map_cons, rv_i, wI_eq, Int32.ofInt_mul] at k
  exact k
theorem x_iand {x y : Int}  (hd : decode mi.2.1 pc = .ok (.iand, 1)) (kk : MW G mi R Z cs (pc + 1) (lc) ((0, zand x y) :: r) n K M) : MW G mi R Z cs pc lc ((0, y) :: (0, x) :: r) n K M := by
  intro p e s m args below meth c H locs ls cx hr hs hl hlo hso
  obtain ⟨hx, hb, hml, hown, hts, hlk, hret, hnm, hK, hbs⟩ := id cx
  have hy : inR y := (List.forall_mem_cons.mp hso).1
  have hx1 : inR x := (List.forall_mem_cons.mp (List.forall_mem_cons.mp hso).2).1
  have hso' := (List.forall_mem_cons.mp (List.forall_mem_cons.mp hso).2).2
  have k := kk p e s m args below meth c H locs ls cx hr hs hl hlo (List.forall_mem_cons.mpr ⟨inR_to _, hso'⟩)
  refine lv_iand hx hb hd ?_
  rw [List.map_cons, rv_i, zand, Int32.ofInt_toInt] at k
  exact k
theorem x_ior {x y : Int}  (hd : decode mi.2.1 pc = .ok (.ior, 1)) (kk : MW G mi R Z cs (pc + 1) (lc) ((0, zor x y) :: r) n K M) : MW G mi R Z cs pc lc ((0, y) :: (0, x) :: r) n K M := by
  intro p e s m args below meth c H locs ls cx hr hs hl hlo hso
  obtain ⟨hx, hb, hml, hown, hts, hlk, hret, hnm, hK, hbs⟩ := id cx
  have hy : inR y := (List.forall_mem_cons.mp hso).1
  have hx1 : inR x := (List.forall_mem_cons.mp (List.forall_mem_cons.mp hso).2).1
  have hso' := (List.forall_mem_cons.mp (List.forall_mem_cons.mp hso).2).2
  have k := kk p e s m args below meth c H locs ls cx hr hs hl hlo (List.forall_mem_cons.mpr ⟨inR_to _, hso'⟩)
  refine lv_ior hx hb hd ?_
  rw [List.map_cons, rv_i, zor, Int32.ofInt_toInt] at k
  exact k
theorem x_ixor {x y : Int}  (hd : decode mi.2.1 pc = .ok (.ixor, 1)) (kk : MW G mi R Z cs (pc + 1) (lc) ((0, zxor x y) :: r) n K M) : MW G mi R Z cs pc lc ((0, y) :: (0, x) :: r) n K M := by
  intro p e s m args below meth c H locs ls cx hr hs hl hlo hso
  obtain ⟨hx, hb, hml, hown, hts, hlk, hret, hnm, hK, hbs⟩ := id cx
  have hy : inR y := (List.forall_mem_cons.mp hso).1
  have hx1 : inR x := (List.forall_mem_cons.mp (List.forall_mem_cons.mp hso).2).1
  have hso' := (List.forall_mem_cons.mp (List.forall_mem_cons.mp hso).2).2
  have k := kk p e s m args below meth c H locs ls cx hr hs hl hlo (List.forall_mem_cons.mpr ⟨inR_to _, hso'⟩)
  refine lv_ixor hx hb hd ?_
  rw [List.map_cons, rv_i, zxor, Int32.ofInt_toInt] at k
  exact k
theorem x_ishl {x y : Int}  (hd : decode mi.2.1 pc = .ok (.ishl, 1)) (kk : MW G mi R Z cs (pc + 1) (lc) ((0, zshl x y) :: r) n K M) : MW G mi R Z cs pc lc ((0, y) :: (0, x) :: r) n K M := by
  intro p e s m args below meth c H locs ls cx hr hs hl hlo hso
  obtain ⟨hx, hb, hml, hown, hts, hlk, hret, hnm, hK, hbs⟩ := id cx
  have hy : inR y := (List.forall_mem_cons.mp hso).1
  have hx1 : inR x := (List.forall_mem_cons.mp (List.forall_mem_cons.mp hso).2).1
  have hso' := (List.forall_mem_cons.mp (List.forall_mem_cons.mp hso).2).2
  have k := kk p e s m args below meth c H locs ls cx hr hs hl hlo (List.forall_mem_cons.mpr ⟨inR_to _, hso'⟩)
  refine lv_ishl hx hb hd ?_
  rw [List.map_cons, rv_i, zshl, Int32.ofInt_toInt] at k
  exact k
theorem x_ishr {x y : Int}  (hd : decode mi.2.1 pc = .ok (.ishr, 1)) (kk : MW G mi R Z cs (pc + 1) (lc) ((0, zshr x y) :: r) n K M) : MW G mi R Z cs pc lc ((0, y) :: (0, x) :: r) n K M := by
  intro p e s m args below meth c H locs ls cx hr hs hl hlo hso
  obtain ⟨hx, hb, hml, hown, hts, hlk, hret, hnm, hK, hbs⟩ := id cx
  have hy : inR y := (List.forall_mem_cons.mp hso).1
  have hx1 : inR x := (List.forall_mem_cons.mp (List.forall_mem_cons.mp hso).2).1
  have hso' := (List.forall_mem_cons.mp (List.forall_mem_cons.mp hso).2).2
  have k := kk p e s m args below meth c H locs ls cx hr hs hl hlo (List.forall_mem_cons.mpr ⟨inR_to _, hso'⟩)
  refine lv_ishr hx hb hd ?_
  rw [List.map_cons, rv_i, zshr, Int32.ofInt_toInt] at k
  exact k
theorem x_iushr {x y : Int}  (hd : decode mi.2.1 pc = .ok (.iushr, 1)) (kk : MW G mi R Z cs (pc + 1) (lc) ((0, zushr x y) :: r) n K M) : MW G mi R Z cs pc lc ((0, y) :: (0, x) :: r) n K M := by
  intro p e s m args below meth c H locs ls cx hr hs hl hlo hso
  obtain ⟨hx, hb, hml, hown, hts, hlk, hret, hnm, hK, hbs⟩ := id cx
  have hy : inR y := (List.forall_mem_cons.mp hso).1
  have hx1 : inR x := (List.forall_mem_cons.mp (List.forall_mem_cons.mp hso).2).1
  have hso' := (List.forall_mem_cons.mp (List.forall_mem_cons.mp hso).2).2
  have k := kk p e s m args below meth c H locs ls cx hr hs hl hlo (List.forall_mem_cons.mpr ⟨inR_to _, hso'⟩)
  refine lv_iushr (v := Int32.ofInt (zushr x y)) hx hb hd (by rw [zushr, Int32.ofInt_toInt]) ?_
  exact k
theorem i3_ne {y : Int} (hy : inR y) (h : y ≠ 0) : ¬ Int32.ofInt y = 0 := fun q => h ((i3_inj hy (show inR 0 from ⟨by omega, by omega⟩)).mp q)
theorem x_idiv {x y : Int} (hne : y ≠ 0) (hm : y ≠ -1) (hd : decode mi.2.1 pc = .ok (.idiv, 1)) (kk : MW G mi R Z cs (pc + 1) (lc) ((0, x.tdiv y) :: r) n K M) : MW G mi R Z cs pc lc ((0, y) :: (0, x) :: r) n K M := by
  intro p e s m args below meth c H locs ls cx hr hs hl hlo hso
  obtain ⟨hx, hb, hml, hown, hts, hlk, hret, hnm, hK, hbs⟩ := id cx
  have hy : inR y := (List.forall_mem_cons.mp hso).1
  have hx1 : inR x := (List.forall_mem_cons.mp (List.forall_mem_cons.mp hso).2).1
  have hso' := (List.forall_mem_cons.mp (List.forall_mem_cons.mp hso).2).2
  have k := kk p e s m args below meth c H locs ls cx hr hs hl hlo (List.forall_mem_cons.mpr ⟨show inR _ from (by have h1 := inR_to (Int32.ofInt x / Int32.ofInt y); rw [Int32.toInt_div_of_ne_right _ _ (fun q => hm ((i3_inj hy (show inR (-1) from ⟨by omega, by omega⟩)).mp q)), i3_to hx1, i3_to hy] at h1; exact h1), hso'⟩)
  refine lv_idiv hx hb hd (i3_ne hy hne) ?_
  rw [List.map_cons, rv_i, Int32.ofInt_tdiv hx1.1 (Int.le_of_lt_add_one hx1.2) hy.1 (Int.le_of_lt_add_one hy.2)] at k
  exact k
theorem x_irem {x y : Int} (hne : y ≠ 0) (hd : decode mi.2.1 pc = .ok (.irem, 1)) (kk : MW G mi R Z cs (pc + 1) (lc) ((0, x.tmod y) :: r) n K M) : MW G mi R Z cs pc lc ((0, y) :: (0, x) :: r) n K M := by
  intro p e s m args below meth c H locs ls cx hr hs hl hlo hso
  obtain ⟨hx, hb, hml, hown, hts, hlk, hret, hnm, hK, hbs⟩ := id cx
  have hy : inR y := (List.forall_mem_cons.mp hso).1
  have hx1 : inR x := (List.forall_mem_cons.mp (List.forall_mem_cons.mp hso).2).1
  have hso' := (List.forall_mem_cons.mp (List.forall_mem_cons.mp hso).2).2
  have k := kk p e s m args below meth c H locs ls cx hr hs hl hlo (List.forall_mem_cons.mpr ⟨show inR _ from (by have h1 := inR_to (Int32.ofInt x % Int32.ofInt y); rw [Int32.toInt_mod, i3_to hx1, i3_to hy] at h1; exact h1), hso'⟩)
  refine lv_irem hx hb hd (i3_ne hy hne) ?_
  rw [List.map_cons, rv_i, Int.tmod_def, Int32.ofInt_sub, Int32.ofInt_mul, Int32.ofInt_tdiv hx1.1 (Int.le_of_lt_add_one hx1.2) hy.1 (Int.le_of_lt_add_one hy.2), Int32.mul_comm] at k
  exact k
theorem x_ineg {x : Int} {w : Bool} (hw : wP w (-x)) (hd : decode mi.2.1 pc = .ok (.ineg, 1)) (kk : MW G mi R Z cs (pc + 1) (lc) ((0, wI w (-x)) :: r) n K M) : MW G mi R Z cs pc lc ((0, x) :: r) n K M := by
  intro p e s m args below meth c H locs ls cx hr hs hl hlo hso
  obtain ⟨hx, hb, hml, hown, hts, hlk, hret, hnm, hK, hbs⟩ := id cx
  have hso' := (List.forall_mem_cons.mp hso).2
  have k := kk p e s m args below meth c H locs ls cx hr hs hl hlo (List.forall_mem_cons.mpr ⟨wI_ok hw, hso'⟩)
  refine lv_ineg hx hb hd ?_
  rw [List.map_cons, rv_i, wI_eq, Int32.ofInt_neg] at k
  exact k
theorem x_i2l {x : Int} (hd : decode mi.2.1 pc = .ok (.i2l, 1)) (kk : MW G mi R Z cs (pc + 1) (lc) ((2, x) :: r) n K M) : MW G mi R Z cs pc lc ((0, x) :: r) n K M := by
  intro p e s m args below meth c H locs ls cx hr hs hl hlo hso
  obtain ⟨hx, hb, hml, hown, hts, hlk, hret, hnm, hK, hbs⟩ := id cx
  have hx1 : inR x := (List.forall_mem_cons.mp hso).1
  have hso' := (List.forall_mem_cons.mp hso).2
  have k := kk p e s m args below meth c H locs ls cx hr hs hl hlo (List.forall_mem_cons.mpr ⟨show inL x from ⟨by have := hx1.1; omega, by have := hx1.2; omega⟩, hso'⟩)
  exact lv_i2l (v := Int64.ofInt x) hx hb hd (Int32.toInt64_ofInt hx1.1 (Int.le_of_lt_add_one hx1.2)) k
theorem x_ladd {x y : Int} (hw : inL (x + y)) (hd : decode mi.2.1 pc = .ok (.ladd, 1)) (kk : MW G mi R Z cs (pc + 1) (lc) ((2, x + y) :: r) n K M) : MW G mi R Z cs pc lc ((2, y) :: (2, x) :: r) n K M := by
  intro p e s m args below meth c H locs ls cx hr hs hl hlo hso
  obtain ⟨hx, hb, hml, hown, hts, hlk, hret, hnm, hK, hbs⟩ := id cx
  have hso' := (List.forall_mem_cons.mp (List.forall_mem_cons.mp hso).2).2
  have k := kk p e s m args below meth c H locs ls cx hr hs hl hlo (List.forall_mem_cons.mpr ⟨hw, hso'⟩)
  refine lv_ladd hx hb hd ?_
  rw [List.map_cons, rv_l, Int64.ofInt_add] at k
  exact k
theorem x_lmul {x y : Int} (hw : inL (x * y)) (hd : decode mi.2.1 pc = .ok (.lmul, 1)) (kk : MW G mi R Z cs (pc + 1) (lc) ((2, x * y) :: r) n K M) : MW G mi R Z cs pc lc ((2, y) :: (2, x) :: r) n K M := by
  intro p e s m args below meth c H locs ls cx hr hs hl hlo hso
  obtain ⟨hx, hb, hml, hown, hts, hlk, hret, hnm, hK, hbs⟩ := id cx
  have hso' := (List.forall_mem_cons.mp (List.forall_mem_cons.mp hso).2).2
  have k := kk p e s m args below meth c H locs ls cx hr hs hl hlo (List.forall_mem_cons.mpr ⟨hw, hso'⟩)
  refine lv_lmul hx hb hd ?_
  rw [List.map_cons, rv_l, Int64.ofInt_mul] at k
  exact k
theorem lg_cmp_z {x y : Int} (hx : inL x) (hy : inL y) : lg_cmp (Int64.ofInt x) (Int64.ofInt y) = Int32.ofInt (zcmp x y) := by
  have e1 : (Int64.ofInt x).toInt = x := Int64.toInt_ofInt_of_le hx.1 hx.2
  have e2 : (Int64.ofInt y).toInt = y := Int64.toInt_ofInt_of_le hy.1 hy.2
  unfold lg_cmp zcmp
  simp only [Int64.lt_iff_toInt_lt, e1, e2]
  rcases Int.lt_trichotomy x y with h | h | h
  · have h1 : ¬ y < x := by omega
    have h2 : ¬ (Int64.ofInt x) = Int64.ofInt y := fun q => by have := congrArg Int64.toInt q; rw [e1, e2] at this; omega
    simp [h, h1, h2]
  · subst h
    simp
  · have h1 : ¬ x < y := by omega
    have h2 : ¬ x = y := by omega
    simp [h, h1, h2]
theorem x_lcmp {x y : Int} (hd : decode mi.2.1 pc = .ok (.lcmp, 1)) (kk : MW G mi R Z cs (pc + 1) (lc) ((0, zcmp x y) :: r) n K M) : MW G mi R Z cs pc lc ((2, y) :: (2, x) :: r) n K M := by
  intro p e s m args below meth c H locs ls cx hr hs hl hlo hso
  obtain ⟨hx, hb, hml, hown, hts, hlk, hret, hnm, hK, hbs⟩ := id cx
  have hy : inL y := (List.forall_mem_cons.mp hso).1
  have hx1 : inL x := (List.forall_mem_cons.mp (List.forall_mem_cons.mp hso).2).1
  have hso' := (List.forall_mem_cons.mp (List.forall_mem_cons.mp hso).2).2
  have k := kk p e s m args below meth c H locs ls cx hr hs hl hlo (List.forall_mem_cons.mpr ⟨show inR _ from (by unfold zcmp; split <;> (try split) <;> exact ⟨by omega, by omega⟩), hso'⟩)
  refine W.lcmp hx hb hd ?_
  rw [List.map_cons, rv_i, ← lg_cmp_z hx1 hy] at k
  exact k
theorem rv_c1 {b : Nat} {v : VV} (h : Nat.ble 2 v.1 = false) : (rv b v).category = 1 := by
  have h1 := rv_cat b v
  rw [h] at h1
  rcases lv_cat (rv b v) with h2 | h2
  · exact h2
  · rw [h2] at h1; cases h1
theorem x_dup {v : VV} (hv : Nat.ble 2 v.1 = false) (hd : decode mi.2.1 pc = .ok (.dup, 1)) (kk : MW G mi R Z cs (pc + 1) (lc) (v :: v :: r) n K M) : MW G mi R Z cs pc lc (v :: r) n K M := by
  intro p e s m args below meth c H locs ls cx hr hs hl hlo hso
  obtain ⟨hx, hb, hml, hown, hts, hlk, hret, hnm, hK, hbs⟩ := id cx
  have k := kk p e s m args below meth c H locs ls cx hr hs hl hlo (List.forall_mem_cons.mpr ⟨(List.forall_mem_cons.mp hso).1, hso⟩)
  exact lv_dup hx hb hd (rv_c1 hv) k
theorem x_pop {v : VV} (hv : Nat.ble 2 v.1 = false) (hd : decode mi.2.1 pc = .ok (.pop, 1)) (kk : MW G mi R Z cs (pc + 1) (lc) (r) n K M) : MW G mi R Z cs pc lc (v :: r) n K M := by
  intro p e s m args below meth c H locs ls cx hr hs hl hlo hso
  obtain ⟨hx, hb, hml, hown, hts, hlk, hret, hnm, hK, hbs⟩ := id cx
  have k := kk p e s m args below meth c H locs ls cx hr hs hl hlo (List.forall_mem_cons.mp hso).2
  exact lv_pop hx hb hd (rv_c1 hv) k
theorem x_dup2 {v u : VV} (hv : Nat.ble 2 v.1 = false) (hu : Nat.ble 2 u.1 = false) (hd : decode mi.2.1 pc = .ok (.dup2, 1)) (kk : MW G mi R Z cs (pc + 1) (lc) (v :: u :: v :: u :: r) n K M) : MW G mi R Z cs pc lc (v :: u :: r) n K M := by
  intro p e s m args below meth c H locs ls cx hr hs hl hlo hso
  obtain ⟨hx, hb, hml, hown, hts, hlk, hret, hnm, hK, hbs⟩ := id cx
  have k := kk p e s m args below meth c H locs ls cx hr hs hl hlo (List.forall_mem_cons.mpr ⟨(List.forall_mem_cons.mp hso).1, List.forall_mem_cons.mpr ⟨(List.forall_mem_cons.mp (List.forall_mem_cons.mp hso).2).1, hso⟩⟩)
  exact lv_dup2_11 hx hb hd (rv_c1 hv) (rv_c1 hu) k
theorem x_if_eq {x : Int} {off : Int} {tgt : Nat} (hd : decode mi.2.1 pc = .ok (.ifCond .eq off, 3)) (ht : (pc : Int) + off = (tgt : Int)) (kt : x = 0 → MW G mi R Z cs tgt lc r n K M) (kf : ¬ (x = 0) → MW G mi R Z cs (pc + 3) lc r n K M) : MW G mi R Z cs pc lc ((0, x) :: r) n K M := by
  intro p e s m args below meth c H locs ls cx hr hs hl hlo hso
  obtain ⟨hx, hb, hml, hown, hts, hlk, hret, hnm, hK, hbs⟩ := id cx
  have hx1 : inR x := (List.forall_mem_cons.mp hso).1
  have hso' := (List.forall_mem_cons.mp hso).2
  have h0 : inR 0 := ⟨by omega, by omega⟩
  exact lv_if_eq (tgt := tgt) hx hb hd ht (fun q => kt ((i3_inj hx1 h0).mp q) p e s m args below meth c H locs ls cx hr hs hl hlo hso') (fun q => kf ((fun z => q ((i3_inj hx1 h0).mpr z))) p e s m args below meth c H locs ls cx hr hs hl hlo hso')
theorem x_icmp_eq {x y : Int} {off : Int} {tgt : Nat} (hd : decode mi.2.1 pc = .ok (.if_icmp .eq off, 3)) (ht : (pc : Int) + off = (tgt : Int)) (kt : x = y → MW G mi R Z cs tgt lc r n K M) (kf : ¬ (x = y) → MW G mi R Z cs (pc + 3) lc r n K M) : MW G mi R Z cs pc lc ((0, y) :: (0, x) :: r) n K M := by
  intro p e s m args below meth c H locs ls cx hr hs hl hlo hso
  obtain ⟨hx, hb, hml, hown, hts, hlk, hret, hnm, hK, hbs⟩ := id cx
  have hy : inR y := (List.forall_mem_cons.mp hso).1
  have hx1 : inR x := (List.forall_mem_cons.mp (List.forall_mem_cons.mp hso).2).1
  have hso' := (List.forall_mem_cons.mp (List.forall_mem_cons.mp hso).2).2
  exact lv_icmp_eq (tgt := tgt) hx hb hd ht (fun q => kt ((i3_inj hx1 hy).mp q) p e s m args below meth c H locs ls cx hr hs hl hlo hso') (fun q => kf ((fun z => q ((i3_inj hx1 hy).mpr z))) p e s m args below meth c H locs ls cx hr hs hl hlo hso')
theorem x_if_ne {x : Int} {off : Int} {tgt : Nat} (hd : decode mi.2.1 pc = .ok (.ifCond .ne off, 3)) (ht : (pc : Int) + off = (tgt : Int)) (kt : x ≠ 0 → MW G mi R Z cs tgt lc r n K M) (kf : ¬ (x ≠ 0) → MW G mi R Z cs (pc + 3) lc r n K M) : MW G mi R Z cs pc lc ((0, x) :: r) n K M := by
  intro p e s m args below meth c H locs ls cx hr hs hl hlo hso
  obtain ⟨hx, hb, hml, hown, hts, hlk, hret, hnm, hK, hbs⟩ := id cx
  have hx1 : inR x := (List.forall_mem_cons.mp hso).1
  have hso' := (List.forall_mem_cons.mp hso).2
  have h0 : inR 0 := ⟨by omega, by omega⟩
  exact lv_if_ne (tgt := tgt) hx hb hd ht (fun q => kt ((not_congr (i3_inj hx1 h0)).mp q) p e s m args below meth c H locs ls cx hr hs hl hlo hso') (fun q => kf ((fun z => z ((i3_inj hx1 h0).mp q))) p e s m args below meth c H locs ls cx hr hs hl hlo hso')
theorem x_icmp_ne {x y : Int} {off : Int} {tgt : Nat} (hd : decode mi.2.1 pc = .ok (.if_icmp .ne off, 3)) (ht : (pc : Int) + off = (tgt : Int)) (kt : x ≠ y → MW G mi R Z cs tgt lc r n K M) (kf : ¬ (x ≠ y) → MW G mi R Z cs (pc + 3) lc r n K M) : MW G mi R Z cs pc lc ((0, y) :: (0, x) :: r) n K M := by
  intro p e s m args below meth c H locs ls cx hr hs hl hlo hso
  obtain ⟨hx, hb, hml, hown, hts, hlk, hret, hnm, hK, hbs⟩ := id cx
  have hy : inR y := (List.forall_mem_cons.mp hso).1
  have hx1 : inR x := (List.forall_mem_cons.mp (List.forall_mem_cons.mp hso).2).1
  have hso' := (List.forall_mem_cons.mp (List.forall_mem_cons.mp hso).2).2
  exact lv_icmp_ne (tgt := tgt) hx hb hd ht (fun q => kt ((not_congr (i3_inj hx1 hy)).mp q) p e s m args below meth c H locs ls cx hr hs hl hlo hso') (fun q => kf ((fun z => z ((i3_inj hx1 hy).mp q))) p e s m args below meth c H locs ls cx hr hs hl hlo hso')
theorem x_if_lt {x : Int} {off : Int} {tgt : Nat} (hd : decode mi.2.1 pc = .ok (.ifCond .lt off, 3)) (ht : (pc : Int) + off = (tgt : Int)) (kt : x < 0 → MW G mi R Z cs tgt lc r n K M) (kf : ¬ (x < 0) → MW G mi R Z cs (pc + 3) lc r n K M) : MW G mi R Z cs pc lc ((0, x) :: r) n K M := by
  intro p e s m args below meth c H locs ls cx hr hs hl hlo hso
  obtain ⟨hx, hb, hml, hown, hts, hlk, hret, hnm, hK, hbs⟩ := id cx
  have hx1 : inR x := (List.forall_mem_cons.mp hso).1
  have hso' := (List.forall_mem_cons.mp hso).2
  have h0 : inR 0 := ⟨by omega, by omega⟩
  exact lv_if_lt (tgt := tgt) hx hb hd ht (fun q => kt ((i3_lt hx1 h0).mp q) p e s m args below meth c H locs ls cx hr hs hl hlo hso') (fun q => kf ((fun z => q ((i3_lt hx1 h0).mpr z))) p e s m args below meth c H locs ls cx hr hs hl hlo hso')
theorem x_icmp_lt {x y : Int} {off : Int} {tgt : Nat} (hd : decode mi.2.1 pc = .ok (.if_icmp .lt off, 3)) (ht : (pc : Int) + off = (tgt : Int)) (kt : x < y → MW G mi R Z cs tgt lc r n K M) (kf : ¬ (x < y) → MW G mi R Z cs (pc + 3) lc r n K M) : MW G mi R Z cs pc lc ((0, y) :: (0, x) :: r) n K M := by
  intro p e s m args below meth c H locs ls cx hr hs hl hlo hso
  obtain ⟨hx, hb, hml, hown, hts, hlk, hret, hnm, hK, hbs⟩ := id cx
  have hy : inR y := (List.forall_mem_cons.mp hso).1
  have hx1 : inR x := (List.forall_mem_cons.mp (List.forall_mem_cons.mp hso).2).1
  have hso' := (List.forall_mem_cons.mp (List.forall_mem_cons.mp hso).2).2
  exact lv_icmp_lt (tgt := tgt) hx hb hd ht (fun q => kt ((i3_lt hx1 hy).mp q) p e s m args below meth c H locs ls cx hr hs hl hlo hso') (fun q => kf ((fun z => q ((i3_lt hx1 hy).mpr z))) p e s m args below meth c H locs ls cx hr hs hl hlo hso')
theorem x_if_ge {x : Int} {off : Int} {tgt : Nat} (hd : decode mi.2.1 pc = .ok (.ifCond .ge off, 3)) (ht : (pc : Int) + off = (tgt : Int)) (kt : 0 ≤ x → MW G mi R Z cs tgt lc r n K M) (kf : ¬ (0 ≤ x) → MW G mi R Z cs (pc + 3) lc r n K M) : MW G mi R Z cs pc lc ((0, x) :: r) n K M := by
  intro p e s m args below meth c H locs ls cx hr hs hl hlo hso
  obtain ⟨hx, hb, hml, hown, hts, hlk, hret, hnm, hK, hbs⟩ := id cx
  have hx1 : inR x := (List.forall_mem_cons.mp hso).1
  have hso' := (List.forall_mem_cons.mp hso).2
  have h0 : inR 0 := ⟨by omega, by omega⟩
  exact lv_if_ge (tgt := tgt) hx hb hd ht (fun q => kt ((i3_le h0 hx1).mp q) p e s m args below meth c H locs ls cx hr hs hl hlo hso') (fun q => kf ((fun z => q ((i3_le h0 hx1).mpr z))) p e s m args below meth c H locs ls cx hr hs hl hlo hso')
theorem x_icmp_ge {x y : Int} {off : Int} {tgt : Nat} (hd : decode mi.2.1 pc = .ok (.if_icmp .ge off, 3)) (ht : (pc : Int) + off = (tgt : Int)) (kt : y ≤ x → MW G mi R Z cs tgt lc r n K M) (kf : ¬ (y ≤ x) → MW G mi R Z cs (pc + 3) lc r n K M) : MW G mi R Z cs pc lc ((0, y) :: (0, x) :: r) n K M := by
  intro p e s m args below meth c H locs ls cx hr hs hl hlo hso
  obtain ⟨hx, hb, hml, hown, hts, hlk, hret, hnm, hK, hbs⟩ := id cx
  have hy : inR y := (List.forall_mem_cons.mp hso).1
  have hx1 : inR x := (List.forall_mem_cons.mp (List.forall_mem_cons.mp hso).2).1
  have hso' := (List.forall_mem_cons.mp (List.forall_mem_cons.mp hso).2).2
  exact lv_icmp_ge (tgt := tgt) hx hb hd ht (fun q => kt ((i3_le hy hx1).mp q) p e s m args below meth c H locs ls cx hr hs hl hlo hso') (fun q => kf ((fun z => q ((i3_le hy hx1).mpr z))) p e s m args below meth c H locs ls cx hr hs hl hlo hso')
theorem x_if_gt {x : Int} {off : Int} {tgt : Nat} (hd : decode mi.2.1 pc = .ok (.ifCond .gt off, 3)) (ht : (pc : Int) + off = (tgt : Int)) (kt : 0 < x → MW G mi R Z cs tgt lc r n K M) (kf : ¬ (0 < x) → MW G mi R Z cs (pc + 3) lc r n K M) : MW G mi R Z cs pc lc ((0, x) :: r) n K M := by
  intro p e s m args below meth c H locs ls cx hr hs hl hlo hso
  obtain ⟨hx, hb, hml, hown, hts, hlk, hret, hnm, hK, hbs⟩ := id cx
  have hx1 : inR x := (List.forall_mem_cons.mp hso).1
  have hso' := (List.forall_mem_cons.mp hso).2
  have h0 : inR 0 := ⟨by omega, by omega⟩
  exact lv_if_gt (tgt := tgt) hx hb hd ht (fun q => kt ((i3_lt h0 hx1).mp q) p e s m args below meth c H locs ls cx hr hs hl hlo hso') (fun q => kf ((fun z => q ((i3_lt h0 hx1).mpr z))) p e s m args below meth c H locs ls cx hr hs hl hlo hso')
theorem x_icmp_gt {x y : Int} {off : Int} {tgt : Nat} (hd : decode mi.2.1 pc = .ok (.if_icmp .gt off, 3)) (ht : (pc : Int) + off = (tgt : Int)) (kt : y < x → MW G mi R Z cs tgt lc r n K M) (kf : ¬ (y < x) → MW G mi R Z cs (pc + 3) lc r n K M) : MW G mi R Z cs pc lc ((0, y) :: (0, x) :: r) n K M := by
  intro p e s m args below meth c H locs ls cx hr hs hl hlo hso
  obtain ⟨hx, hb, hml, hown, hts, hlk, hret, hnm, hK, hbs⟩ := id cx
  have hy : inR y := (List.forall_mem_cons.mp hso).1
  have hx1 : inR x := (List.forall_mem_cons.mp (List.forall_mem_cons.mp hso).2).1
  have hso' := (List.forall_mem_cons.mp (List.forall_mem_cons.mp hso).2).2
  exact lv_icmp_gt (tgt := tgt) hx hb hd ht (fun q => kt ((i3_lt hy hx1).mp q) p e s m args below meth c H locs ls cx hr hs hl hlo hso') (fun q => kf ((fun z => q ((i3_lt hy hx1).mpr z))) p e s m args below meth c H locs ls cx hr hs hl hlo hso')
theorem x_if_le {x : Int} {off : Int} {tgt : Nat} (hd : decode mi.2.1 pc = .ok (.ifCond .le off, 3)) (ht : (pc : Int) + off = (tgt : Int)) (kt : x ≤ 0 → MW G mi R Z cs tgt lc r n K M) (kf : ¬ (x ≤ 0) → MW G mi R Z cs (pc + 3) lc r n K M) : MW G mi R Z cs pc lc ((0, x) :: r) n K M := by
  intro p e s m args below meth c H locs ls cx hr hs hl hlo hso
  obtain ⟨hx, hb, hml, hown, hts, hlk, hret, hnm, hK, hbs⟩ := id cx
  have hx1 : inR x := (List.forall_mem_cons.mp hso).1
  have hso' := (List.forall_mem_cons.mp hso).2
  have h0 : inR 0 := ⟨by omega, by omega⟩
  exact lv_if_le (tgt := tgt) hx hb hd ht (fun q => kt ((i3_le hx1 h0).mp q) p e s m args below meth c H locs ls cx hr hs hl hlo hso') (fun q => kf ((fun z => q ((i3_le hx1 h0).mpr z))) p e s m args below meth c H locs ls cx hr hs hl hlo hso')
theorem x_icmp_le {x y : Int} {off : Int} {tgt : Nat} (hd : decode mi.2.1 pc = .ok (.if_icmp .le off, 3)) (ht : (pc : Int) + off = (tgt : Int)) (kt : x ≤ y → MW G mi R Z cs tgt lc r n K M) (kf : ¬ (x ≤ y) → MW G mi R Z cs (pc + 3) lc r n K M) : MW G mi R Z cs pc lc ((0, y) :: (0, x) :: r) n K M := by
  intro p e s m args below meth c H locs ls cx hr hs hl hlo hso
  obtain ⟨hx, hb, hml, hown, hts, hlk, hret, hnm, hK, hbs⟩ := id cx
  have hy : inR y := (List.forall_mem_cons.mp hso).1
  have hx1 : inR x := (List.forall_mem_cons.mp (List.forall_mem_cons.mp hso).2).1
  have hso' := (List.forall_mem_cons.mp (List.forall_mem_cons.mp hso).2).2
  exact lv_icmp_le (tgt := tgt) hx hb hd ht (fun q => kt ((i3_le hx1 hy).mp q) p e s m args below meth c H locs ls cx hr hs hl hlo hso') (fun q => kf ((fun z => q ((i3_le hx1 hy).mpr z))) p e s m args below meth c H locs ls cx hr hs hl hlo hso')
theorem x_goto {off : Int} {tgt : Nat} (hd : decode mi.2.1 pc = .ok (.goto off, 3)) (ht : (pc : Int) + off = (tgt : Int)) (kk : MW G mi R Z cs tgt lc r n K M) : MW G mi R Z cs pc lc r n K M := by
  intro p e s m args below meth c H locs ls cx hr hs hl hlo hso
  obtain ⟨hx, hb, hml, hown, hts, hlk, hret, hnm, hK, hbs⟩ := id cx
  exact lv_goto (tgt := tgt) hx hb hd ht (kk p e s m args below meth c H locs ls cx hr hs hl hlo hso)
theorem x_ifnull {x : Int} {off : Int} {tgt : Nat} (hd : decode mi.2.1 pc = .ok (.ifnull off, 3)) (ht : (pc : Int) + off = (tgt : Int)) (kt : x < 0 → MW G mi R Z cs tgt lc r n K M) (kf : 0 ≤ x → MW G mi R Z cs (pc + 3) lc r n K M) : MW G mi R Z cs pc lc ((1, x) :: r) n K M := by
  intro p e s m args below meth c H locs ls cx hr hs hl hlo hso
  obtain ⟨hx, hb, hml, hown, hts, hlk, hret, hnm, hK, hbs⟩ := id cx
  have hso' := (List.forall_mem_cons.mp hso).2
  by_cases h : x < 0
  · rw [List.map_cons, rv_n h]
    exact lv_ifnullN (tgt := tgt) hx hb hd ht (kt h p e s m args below meth c H locs ls cx hr hs hl hlo hso')
  · rw [List.map_cons, rv_r (by omega)]
    exact lv_ifnull hx hb hd (kf (by omega) p e s m args below meth c H locs ls cx hr hs hl hlo hso')
theorem x_ifnonnull {x : Int} {off : Int} {tgt : Nat} (hd : decode mi.2.1 pc = .ok (.ifnonnull off, 3)) (ht : (pc : Int) + off = (tgt : Int)) (kt : 0 ≤ x → MW G mi R Z cs tgt lc r n K M) (kf : x < 0 → MW G mi R Z cs (pc + 3) lc r n K M) : MW G mi R Z cs pc lc ((1, x) :: r) n K M := by
  intro p e s m args below meth c H locs ls cx hr hs hl hlo hso
  obtain ⟨hx, hb, hml, hown, hts, hlk, hret, hnm, hK, hbs⟩ := id cx
  have hso' := (List.forall_mem_cons.mp hso).2
  by_cases h : x < 0
  · rw [List.map_cons, rv_n h]
    exact lv_ifnonnullN hx hb hd (kf h p e s m args below meth c H locs ls cx hr hs hl hlo hso')
  · rw [List.map_cons, rv_r (by omega)]
    exact lv_ifnonnull (tgt := tgt) hx hb hd ht (kt (by omega) p e s m args below meth c H locs ls cx hr hs hl hlo hso')
theorem x_tsIn {x : Int} {dflt lo hi : Int} {offs : Array Int} {len : Nat} {off : Int} {tgt : Nat} (hd : decode mi.2.1 pc = .ok (.tableswitch dflt lo hi offs, len)) (h1 : lo ≤ x) (h2 : x ≤ hi) (ho : offs[(x - lo).toNat]? = some off) (ht : (pc : Int) + off = (tgt : Int)) (kk : MW G mi R Z cs tgt lc r n K M) : MW G mi R Z cs pc lc ((0, x) :: r) n K M := by
  intro p e s m args below meth c H locs ls cx hr hs hl hlo hso
  obtain ⟨hx, hb, hml, hown, hts, hlk, hret, hnm, hK, hbs⟩ := id cx
  have hx1 : inR x := (List.forall_mem_cons.mp hso).1
  have hso' := (List.forall_mem_cons.mp hso).2
  exact lv_tableIn (tgt := tgt) hx hb hd (by rw [i3_to hx1]; omega) (by rw [i3_to hx1]; omega) (by rw [i3_to hx1]; exact ho) ht (kk p e s m args below meth c H locs ls cx hr hs hl hlo hso')
theorem x_tsOut {x : Int} {dflt lo hi : Int} {offs : Array Int} {len : Nat} {tgt : Nat} (hd : decode mi.2.1 pc = .ok (.tableswitch dflt lo hi offs, len)) (h1 : x < lo ∨ hi < x) (ht : (pc : Int) + dflt = (tgt : Int)) (kk : MW G mi R Z cs tgt lc r n K M) : MW G mi R Z cs pc lc ((0, x) :: r) n K M := by
  intro p e s m args below meth c H locs ls cx hr hs hl hlo hso
  obtain ⟨hx, hb, hml, hown, hts, hlk, hret, hnm, hK, hbs⟩ := id cx
  have hx1 : inR x := (List.forall_mem_cons.mp hso).1
  have hso' := (List.forall_mem_cons.mp hso).2
  exact lv_tableOut (tgt := tgt) hx hb hd (by rw [i3_to hx1]; exact h1) ht (kk p e s m args below meth c H locs ls cx hr hs hl hlo hso')
theorem x_ls {x : Int} {dflt : Int} {ps : Array (Int × Int)} {len : Nat} {off : Int} {tgt : Nat} (hd : decode mi.2.1 pc = .ok (.lookupswitch dflt ps, len)) (hp : (ps.toList.zip (ps.toList.drop 1)).all (fun (a, next) => a.1 < next.1) = true) (ho : Op.lookupswitch.offset ps.toList dflt x = off) (ht : (pc : Int) + off = (tgt : Int)) (kk : MW G mi R Z cs tgt lc r n K M) : MW G mi R Z cs pc lc ((0, x) :: r) n K M := by
  intro p e s m args below meth c H locs ls cx hr hs hl hlo hso
  obtain ⟨hx, hb, hml, hown, hts, hlk, hret, hnm, hK, hbs⟩ := id cx
  have hx1 : inR x := (List.forall_mem_cons.mp hso).1
  have hso' := (List.forall_mem_cons.mp hso).2
  exact lv_lookup (tgt := tgt) hx hb hd hp (by rw [i3_to hx1]; exact ho) ht (kk p e s m args below meth c H locs ls cx hr hs hl hlo hso')
end MWX
