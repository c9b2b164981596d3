/-! ===== THE SMALL MACHINE: numbers as Int, cells by number from the law's first own cell on; one row an instruction ===== -/
/-- a value: 0 an int, 1 a reference (below 0: null), 2 a long -/
abbrev VV : Type := Nat × Int
/-- what a cell is: (0, class), (1, length) ints, (2, length) Orders, (3, length) Sheets, (9, _) nothing -/
abbrev KK : Type := Int → Nat × Nat
/-- what a cell holds, by place -/
abbrev MM : Type := Int → Int → Int
abbrev LL : Type := List (Nat × VV)
/-- launch; classes' numbers and slots; the classes of int[], Order[], Sheet[]; the first own address -/
abbrev GG : Type := Launch × va_G × (ClassId × ClassId × ClassId) × Nat
/-- a method: name, code, class, locals, answer -/
abbrev MI : Type := MethodName × ByteArray × String × Nat × Option FieldType
abbrev ZZ : Type := List Frame → Array Value → State → State → Prop
def inR (x : Int) : Prop := -2147483648 ≤ x ∧ x < 2147483648
def inL (x : Int) : Prop := -9223372036854775808 ≤ x ∧ x < 9223372036854775808
def rv (b : Nat) (v : VV) : Value := match v.1 with
  | 0 => .int (Int32.ofInt v.2)
  | 1 => if v.2 < 0 then .null else .ref (b + v.2.toNat)
  | _ => .long (Int64.ofInt v.2)
def okV (v : VV) : Prop := match v.1 with
  | 0 => inR v.2
  | 1 => inR v.2
  | _ => inL v.2
def rf (b : Nat) (x : Int) : Option Nat := if x < 0 then none else some (b + x.toNat)
theorem rv_i (b : Nat) (x : Int) : rv b (0, x) = .int (Int32.ofInt x) := rfl
theorem rv_l (b : Nat) (x : Int) : rv b (2, x) = .long (Int64.ofInt x) := rfl
theorem rv_r {b : Nat} {x : Int} (h : 0 ≤ x) : rv b (1, x) = .ref (b + x.toNat) := by
  show (if x < 0 then Value.null else .ref (b + x.toNat)) = _
  rw [if_neg (by omega)]
theorem rv_n {b : Nat} {x : Int} (h : x < 0) : rv b (1, x) = .null := by
  show (if x < 0 then Value.null else .ref (b + x.toNat)) = _
  rw [if_pos h]
theorem va_rf_rf (b : Nat) (x : Int) : va_rf (rf b x) = rv b (1, x) := by
  by_cases h : x < 0
  · rw [rv_n h]; simp [rf, h, va_rf]
  · rw [rv_r (by omega)]; simp [rf, h, va_rf]
def oT : List Nat := [0, 0, 1, 1, 0]
def fT (ci : Nat) : List Nat := match ci with
  | 0 => oT | 1 => [1, 1, 1] | 2 => oT | 3 => [1, 0] | 4 => oT | 5 => oT | 6 => [1, 1, 1, 1, 1, 0] | 7 => [1, 1, 1, 1, 1, 1] | 8 => [1, 0, 0] | 9 => oT | 10 => oT
  | 11 => [1, 0, 1, 1, 0, 1, 1, 1, 1, 1, 1, 0]
  | _ => [0, 1, 1, 1, 0, 0, 1, 0, 1, 1, 1, 1, 0, 1, 0, 1, 1, 1, 1, 1, 1, 0, 0, 0, 1, 1, 1]
def tC (ci : Nat) : Nat → FieldType := match ci with
  | 0 => tyX0 | 1 => tyX1 | 2 => tyX2 | 3 => tyX3 | 4 => tyX4 | 5 => tyX5 | 6 => tyX6 | 7 => tyX7 | 8 => tyX8 | 9 => tyX9 | 10 => tyX10 | 11 => tyX11 | _ => tyX12
def vC (ci : Nat) : vw_C := vwCl.getD ci (RX0, TX0, 5)
def cE (G : GG) (K : KK) (M : MM) (a : Int) : va_E := match (K a).1 with
  | 0 => .inr ((K a).2, (fT (K a).2).mapIdx (fun k t => rv G.2.2.2 (t, M a (k : Int))))
  | 1 => .inl (G.2.2.1.1, (K a).2, .inl (fun j => Int32.ofInt (M a (j : Int))))
  | 2 => .inl (G.2.2.1.2.1, (K a).2, .inr (.inr (.inr (.inr (fun j => rf G.2.2.2 (M a (j : Int)))))))
  | _ => .inl (G.2.2.1.2.2, (K a).2, .inr (.inr (.inr (.inr (fun j => rf G.2.2.2 (M a (j : Int)))))))
/-- the heap holds the small machine's cells -/
def HR (G : GG) (n : Nat) (K : KK) (M : MM) (H : Heap) : Prop := H.size = G.2.2.2 + n ∧ (∀ a k, inR (M a k)) ∧ (∀ a : Int, (K a).1 ≠ 9 → 0 ≤ a ∧ a < n) ∧ ∀ a : Int, 0 ≤ a → a < n → va_at G.2.1 vwCl (G.2.2.2 + a.toNat, cE G K M a) H
def mw_own (G : GG) : Nat → Prop := fun q => G.2.2.2 ≤ q
def mw_tys (G : GG) : List (ClassId × FieldType) := [(G.2.2.1.1, .int), (G.2.2.1.2.1, .object "HalfOrders$Order"), (G.2.2.1.2.2, .object "HalfOrders$Sheet")]
def ncl : List (String × String) := [("HalfOrders$Order", "HalfOrders$Stack"), ("HalfOrders$Order", "HalfOrders$Beside"), ("HalfOrders$Order", "HalfOrders$Times"), ("HalfOrders$Order", "HalfOrders$Held"), ("HalfOrders$Order", "HalfOrders$Row"), ("HalfOrders$Stack", "HalfOrders$Beside"), ("HalfOrders$Stack", "HalfOrders$Times"), ("HalfOrders$Stack", "HalfOrders$Held"), ("HalfOrders$Stack", "HalfOrders$Row"), ("HalfOrders$Beside", "HalfOrders$Times"), ("HalfOrders$Beside", "HalfOrders$Held"), ("HalfOrders$Beside", "HalfOrders$Row"), ("HalfOrders$Times", "HalfOrders$Held"), ("HalfOrders$Times", "HalfOrders$Row"), ("HalfOrders$Held", "HalfOrders$Stack"), ("HalfOrders$Held", "HalfOrders$Beside"), ("HalfOrders$Held", "HalfOrders$Times"), ("HalfOrders$Held", "HalfOrders$Row"), ("HalfOrders$Row", "HalfOrders$Beside"), ("HalfOrders$Row", "HalfOrders$Times"), ("HalfOrders$Row", "HalfOrders$Held")]
def cal : List (String × String) := [("HalfOrders$Beside", "HalfOrders$Stack"), ("HalfOrders$Row", "HalfOrders$Stack"), ("HalfOrders$Times", "HalfOrders$Stack"), ("HalfOrders$Times", "HalfOrders$Beside"), ("HalfOrders$Stack", "HalfOrders$Order"), ("HalfOrders$Beside", "HalfOrders$Order"), ("HalfOrders$Times", "HalfOrders$Order"), ("HalfOrders$Held", "HalfOrders$Order"), ("HalfOrders$Row", "HalfOrders$Order")]
def dcl : List MethodName := [⟨"HalfOrders$Order", "partAct", "(ILHalfOrders$Line;)I"⟩, ⟨"HalfOrders$Order", "joinAct", "(ILHalfOrders$Line;)I"⟩, ⟨"HalfOrders$Stack", "lookAct", "(ILHalfOrders$Line;)I"⟩]
def va_Ca (C T : String) (U : State) : Prop := ∃ c t : ClassId, U.vm.findClass C = some c ∧ U.vm.findClass T = some t ∧ U.vm.assignable c t = true
theorem va_Ca.moved {C T : String} {u U : State} (hvm : u.vm.Alike U.vm) (h : va_Ca C T u) : va_Ca C T U := by
  obtain ⟨c, t, h1, h2, h3⟩ := h
  exact ⟨c, t, by rw [hvm.findClass]; exact h1, by rw [hvm.findClass]; exact h2, by rw [hvm.assignable]; exact h3⟩
theorem va_dcl_moved {x : MethodName} {u U : State} (hvm : u.vm.Alike U.vm) (h : va_Nw (.declares x) u) : va_Nw (.declares x) U := va_tabs rfl (rfl : (u.setVm U.vm).vm = U.vm) (A := #[]) (by rw [Cond.declares_setVm hvm]; exact h)
def KX (G : GG) (U : State) : Prop := va_K G.2.1 vwCl (mw_tys G) U ∧ (∀ q ∈ ncl, va_Nc q.1 q.2 U) ∧ (∀ q ∈ cal, va_Ca q.1 q.2 U) ∧ (∀ x ∈ dcl, va_Nw (.declares x) U) ∧ va_AO "HalfOrders$Order" U ∧ va_AO "HalfOrders$Sheet" U
theorem KX.moved {G : GG} {u U : State} (hvm : u.vm.Alike U.vm) (h : KX G u) : KX G U := ⟨va_K.moved hvm h.1, fun q hq => va_Nc.moved hvm (h.2.1 q hq), fun q hq => va_Ca.moved hvm (h.2.2.1 q hq), fun x hx => va_dcl_moved hvm (h.2.2.2.1 x hx), va_AO.moved hvm h.2.2.2.2.1, va_AO.moved hvm h.2.2.2.2.2⟩
def mw_keep (w : Cond) : Bool := match w with
  | .privateMethod _ => false
  | .castable _ _ => false
  | .declares _ => false
  | .arrayOver _ => false
  | _ => true
/-- private methods of Order, found on objects of its subclasses -/
def ex_ms : List MethodName := [⟨"HalfOrders$Order", "stepsTo", "(II)I"⟩, ⟨"HalfOrders$Order", "allNextOver", "(I)I"⟩, ⟨"HalfOrders$Order", "firstStep", "(III)I"⟩, ⟨"HalfOrders$Order", "isAntichain", "(I)Z"⟩, ⟨"HalfOrders$Order", "leastOf", "(I)I"⟩, ⟨"HalfOrders$Order", "firstBentEnd", "(II)I"⟩]
def ex_cs : List String := ["HalfOrders$Stack", "HalfOrders$Beside", "HalfOrders$Times", "HalfOrders$Held", "HalfOrders$Row"]
def ex_sels : List Cond := ex_cs.flatMap (fun C => ex_ms.map (fun y => Cond.selects C y y))
theorem selects_priv {C : String} {y : MethodName} {s : State} {args : Array Value} {n n' : Nat} (hy : y.cls ≠ "java/lang/invoke/MethodHandle" ∧ y.cls ≠ "java/lang/invoke/VarHandle")
    (hC : (Cond.instantiable C n').before args s = true) (hins : (Cond.instantiable y.cls n).before args s = true) (hpriv : (Cond.privateMethod y).before args s = true) (hinst : (Cond.instanceMethod y).before args s = true) :
    (Cond.selects C y y).before args s = true := by
  obtain ⟨c', k', hc', hk', -, -, -, -⟩ := Cond.instantiable_spec hC
  obtain ⟨c, k, hc, hk, -, hniab, -, -⟩ := Cond.instantiable_spec hins
  have hni : k.isInterface = false := (Bool.or_eq_false_iff.mp hniab).1
  obtain ⟨mk, methM, hnamed, hmethM, -, -⟩ := Cond.instanceMethod_spec hinst
  have hfound : s.methodFound? y.cls y.name y.desc = some mk := State.methodFound?_of_named hnamed hy
  have hcls : mk.cls = c := Option.some.inj ((findClass_of_methodNamed hnamed).symm.trans hc)
  have hsel : selectMethod {} s.vm c' mk = .method mk := selectMethod_private hmethM (Cond.privateMethod_at hpriv mk methM hnamed hmethM)
  simp only [Cond.before, Cond.holds, Cond.value, hc', hfound, hnamed, hsel, hcls, hk]
  simp; exact hni
def mw_tbl : List Cond := (lw_tbl ++ ex_sels).filter mw_keep
theorem mw_of_tbl {w : Cond} (h : w ∈ tables_1) (hk : mw_keep w = true) : w ∈ mw_tbl := List.mem_filter.mpr ⟨List.mem_append_left _ (List.mem_append_right _ h), hk⟩
theorem mw_of_priv {w : Cond} (h : w ∈ k2_sels lw_privs) (hk : mw_keep w = true) : w ∈ mw_tbl := List.mem_filter.mpr ⟨List.mem_append_left _ (List.mem_append_left _ h), hk⟩
theorem mw_of_ex {w : Cond} (h : w ∈ ex_sels) (hk : mw_keep w = true) : w ∈ mw_tbl := List.mem_filter.mpr ⟨List.mem_append_right _ h, hk⟩
theorem mwt_1 (k : Nat) {w : Cond} (h : tables_1_1[k]? = some w) (hk : mw_keep w = true) : w ∈ mw_tbl := mw_of_tbl (List.mem_append_left _ (List.mem_of_getElem? h)) hk
theorem mwt_2 (k : Nat) {w : Cond} (h : tables_1_2[k]? = some w) (hk : mw_keep w = true) : w ∈ mw_tbl := mw_of_tbl (List.mem_append_right _ (List.mem_append_left _ (List.mem_of_getElem? h))) hk
theorem mwt_3 (k : Nat) {w : Cond} (h : tables_1_3[k]? = some w) (hk : mw_keep w = true) : w ∈ mw_tbl := mw_of_tbl (List.mem_append_right _ (List.mem_append_right _ (List.mem_append_left _ (List.mem_of_getElem? h)))) hk
theorem mwt_4 (k : Nat) {w : Cond} (h : tables_1_4[k]? = some w) (hk : mw_keep w = true) : w ∈ mw_tbl := mw_of_tbl (List.mem_append_right _ (List.mem_append_right _ (List.mem_append_right _ (List.mem_append_left _ (List.mem_of_getElem? h))))) hk
theorem mwt_5 (k : Nat) {w : Cond} (h : tables_1_5[k]? = some w) (hk : mw_keep w = true) : w ∈ mw_tbl := mw_of_tbl (List.mem_append_right _ (List.mem_append_right _ (List.mem_append_right _ (List.mem_append_right _ (List.mem_append_left _ (List.mem_of_getElem? h)))))) hk
theorem mwt_6 (k : Nat) {w : Cond} (h : tables_1_6[k]? = some w) (hk : mw_keep w = true) : w ∈ mw_tbl := mw_of_tbl (List.mem_append_right _ (List.mem_append_right _ (List.mem_append_right _ (List.mem_append_right _ (List.mem_append_right _ (List.mem_append_left _ (List.mem_of_getElem? h))))))) hk
theorem mwt_7 (k : Nat) {w : Cond} (h : tables_1_7[k]? = some w) (hk : mw_keep w = true) : w ∈ mw_tbl := mw_of_tbl (List.mem_append_right _ (List.mem_append_right _ (List.mem_append_right _ (List.mem_append_right _ (List.mem_append_right _ (List.mem_append_right _ (List.mem_of_getElem? h))))))) hk
def CX (G : GG) (mi : MI) (p : Program) (s : State) (m : MethodId) (args : Array Value) (meth : Method) (c : Code) : Prop :=
  p.tables.exec = Jvm.exec ∧ c.code = mi.2.1 ∧ c.maxLocals = mi.2.2.2.1 ∧ s.vm.findClass mi.2.2.1 = some m.cls ∧ (∀ w ∈ mw_tbl, w.before args s = true) ∧ meth.locks = false ∧ meth.sig.returnType = mi.2.2.2.2 ∧ meth.name = mi.1.name ∧ KX G s ∧ G.2.2.2 ≤ s.heap.size
def rL (b : Nat) (lc : LL) : List (Nat × Value) := lc.map (fun q => (q.1, rv b q.2))
/-- the machine, at pc of a method with these locals and this stack, over this heap, comes to its end -/
def MW (G : GG) (mi : MI) (R : Room) (Z : ZZ) (cs : Nat × Nat) (pc : Nat) (lc : LL) (st : List VV) (n : Nat) (K : KK) (M : MM) : Prop :=
  ∀ (p : Program) (e : Env) (s : State) (m : MethodId) (args : Array Value) (below : List Frame) (meth : Method) (c : Code) (H : Heap) (locs : List Loc) (ls : Array Slot),
    CX G mi p s m args meth c → HR G n K M H → va_S (mw_own G) s.heap H locs → lv_has ls mi.2.2.2.1 (rL G.2.2.2 lc) → (∀ q ∈ lc, okV q.2) → (∀ v ∈ st, okV v) →
    W p G.1 e R s m args below meth c H locs cs.1 cs.2 (Z below args s) (F0 m pc ls (st.map (rv G.2.2.2)))
def lk (i : Nat) : LL → Option VV
  | [] => none
  | q :: r => bif Nat.beq q.1 i then some q.2 else lk i r
def sl1 (i : Nat) (v : VV) (l : LL) : LL := (i, v) :: l.filter (fun q => !(Nat.beq q.1 i) && !(Nat.beq (q.1 + 1) i && Nat.ble 2 q.2.1))
def sl2 (i : Nat) (v : VV) (l : LL) : LL := (i, v) :: l.filter (fun q => !(Nat.beq q.1 i) && (!(Nat.beq q.1 (i + 1)) && !(Nat.beq (q.1 + 1) i && Nat.ble 2 q.2.1)))
theorem lk_mem {i : Nat} {v : VV} : ∀ {l : LL}, lk i l = some v → (i, v) ∈ l := by
  intro l
  induction l with
  | nil => intro h; cases h
  | cons q r ih =>
    intro h
    unfold lk at h
    cases hb : Nat.beq q.1 i with
    | true =>
      rw [hb] at h
      have h1 : q.1 = i := Nat.eq_of_beq_eq_true hb
      have h2 : q.2 = v := Option.some.inj h
      rw [← h1, ← h2]
      exact List.mem_cons_self
    | false =>
      rw [hb] at h
      exact List.mem_cons_of_mem _ (ih h)
theorem rv_cat (b : Nat) (v : VV) : ((rv b v).category == 2) = Nat.ble 2 v.1 := by
  obtain ⟨t, x⟩ := v
  match t with
  | 0 => rfl
  | 1 =>
    by_cases h : x < 0
    · rw [rv_n h]; rfl
    · rw [rv_r (by omega)]; rfl
  | t + 2 => simp [rv, Value.category]
theorem nbq (a b : Nat) : (a == b) = Nat.beq a b := by
  cases h : Nat.beq a b with
  | true => rw [Nat.eq_of_beq_eq_true h]; simp
  | false => have := Nat.ne_of_beq_eq_false h; simp [this]
theorem rL_filter1 (b i : Nat) (l : LL) : (rL b l).filter (fun q => !(q.1 == i) && !(q.1 + 1 == i && q.2.category == 2)) = rL b (l.filter (fun q => !(Nat.beq q.1 i) && !(Nat.beq (q.1 + 1) i && Nat.ble 2 q.2.1))) := by
  unfold rL
  rw [List.filter_map]
  congr 1
  refine List.filter_congr fun q _ => ?_
  show (!(q.1 == i) && !(q.1 + 1 == i && (rv b q.2).category == 2)) = _
  rw [rv_cat]
  simp only [nbq]
theorem rL_filter2 (b i : Nat) (l : LL) : (rL b l).filter (fun q => !(q.1 == i) && (!(q.1 == i + 1) && !(q.1 + 1 == i && q.2.category == 2))) = rL b (l.filter (fun q => !(Nat.beq q.1 i) && (!(Nat.beq q.1 (i + 1)) && !(Nat.beq (q.1 + 1) i && Nat.ble 2 q.2.1)))) := by
  unfold rL
  rw [List.filter_map]
  congr 1
  refine List.filter_congr fun q _ => ?_
  show (!(q.1 == i) && (!(q.1 == i + 1) && !(q.1 + 1 == i && (rv b q.2).category == 2))) = _
  rw [rv_cat]
  simp only [nbq]
theorem ok_sl1 {i : Nat} {v : VV} {l : LL} (hv : okV v) (hl : ∀ q ∈ l, okV q.2) : ∀ q ∈ sl1 i v l, okV q.2 := by
  intro q hq
  rcases List.mem_cons.mp hq with rfl | h
  · exact hv
  · exact hl q (List.mem_filter.mp h).1
theorem ok_sl2 {i : Nat} {v : VV} {l : LL} (hv : okV v) (hl : ∀ q ∈ l, okV q.2) : ∀ q ∈ sl2 i v l, okV q.2 := by
  intro q hq
  rcases List.mem_cons.mp hq with rfl | h
  · exact hv
  · exact hl q (List.mem_filter.mp h).1
theorem rL_at {ls : Array Slot} {nL b i : Nat} {v : VV} {l : LL} (h : lv_has ls nL (rL b l)) (hk : lk i l = some v) : ls[i]? = some (.val (rv b v)) := h.2.2 (i, rv b v) (List.mem_map.mpr ⟨(i, v), lk_mem hk, rfl⟩)
theorem i3_inj {x y : Int} (hx : inR x) (hy : inR y) : Int32.ofInt x = Int32.ofInt y ↔ x = y := by
  constructor
  · intro h
    have h2 := congrArg Int32.toInt h
    rw [Int32.toInt_ofInt_of_le hx.1 hx.2, Int32.toInt_ofInt_of_le hy.1 hy.2] at h2
    exact h2
  · intro h; rw [h]
theorem i3_lt {x y : Int} (hx : inR x) (hy : inR y) : Int32.ofInt x < Int32.ofInt y ↔ x < y := by
  rw [Int32.lt_iff_toInt_lt, Int32.toInt_ofInt_of_le hx.1 hx.2, Int32.toInt_ofInt_of_le hy.1 hy.2]
theorem i3_le {x y : Int} (hx : inR x) (hy : inR y) : Int32.ofInt x ≤ Int32.ofInt y ↔ x ≤ y := by
  rw [Int32.le_iff_toInt_le, Int32.toInt_ofInt_of_le hx.1 hx.2, Int32.toInt_ofInt_of_le hy.1 hy.2]
theorem i3_nat {x : Int} (hx : inR x) : (Int32.ofInt x).toNatClampNeg = x.toNat := Int32.toNatClampNeg_ofInt_of_le hx.1 hx.2
theorem i3_to {x : Int} (hx : inR x) : (Int32.ofInt x).toInt = x := Int32.toInt_ofInt_of_le hx.1 hx.2
theorem inR_to (x : Int32) : inR x.toInt := ⟨x.le_toInt, x.toInt_lt⟩
def wr (x : Int) : Int := (Int32.ofInt x).toInt
def zand (x y : Int) : Int := (Int32.ofInt x &&& Int32.ofInt y).toInt
def zor (x y : Int) : Int := (Int32.ofInt x ||| Int32.ofInt y).toInt
def zxor (x y : Int) : Int := (Int32.ofInt x ^^^ Int32.ofInt y).toInt
def zshl (x y : Int) : Int := (Int32.ofInt x <<< (Int32.ofInt y &&& 31)).toInt
def zshr (x y : Int) : Int := (Int32.ofInt x >>> (Int32.ofInt y &&& 31)).toInt
def zushr (x y : Int) : Int := ((Int32.ofInt x).toUInt32 >>> ((Int32.ofInt y).toUInt32 &&& Int32.toUInt32 31)).toInt32.toInt
def wI (w : Bool) (x : Int) : Int := match w with
  | true => wr x
  | false => x
def wP (w : Bool) (x : Int) : Prop := match w with
  | true => True
  | false => inR x
theorem wI_ok {w : Bool} {x : Int} (h : wP w x) : inR (wI w x) := by
  cases w with
  | true => exact inR_to _
  | false => exact h
theorem wI_eq (w : Bool) (x : Int) : Int32.ofInt (wI w x) = Int32.ofInt x := by
  cases w with
  | true => exact Int32.ofInt_toInt _
  | false => rfl
def zcmp (x y : Int) : Int := if x < y then -1 else if x = y then 0 else 1
