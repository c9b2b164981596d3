/-! ===== words of the tables, by their places ===== -/
set_option maxRecDepth 100000 in
theorem w0 : (Jvm.Cond.selects "HalfOrders" ({ cls := "HalfOrders", name := "refuse", desc := "(I)I" } : Jvm.MethodName) ({ cls := "HalfOrders", name := "refuse", desc := "(I)I" } : Jvm.MethodName)) ∈ mw_tbl := mw_of_priv (List.mem_of_getElem? (i := 0) rfl) rfl
set_option maxRecDepth 100000 in
theorem w1 : (Jvm.Cond.selects "HalfOrders" ({ cls := "HalfOrders", name := "hasRoom", desc := "(I)Z" } : Jvm.MethodName) ({ cls := "HalfOrders", name := "hasRoom", desc := "(I)Z" } : Jvm.MethodName)) ∈ mw_tbl := mw_of_priv (List.mem_of_getElem? (i := 1) rfl) rfl
set_option maxRecDepth 100000 in
theorem w2 : (Jvm.Cond.selects "HalfOrders" ({ cls := "HalfOrders", name := "take", desc := "(LHalfOrders$Order;)I" } : Jvm.MethodName) ({ cls := "HalfOrders", name := "take", desc := "(LHalfOrders$Order;)I" } : Jvm.MethodName)) ∈ mw_tbl := mw_of_priv (List.mem_of_getElem? (i := 2) rfl) rfl
set_option maxRecDepth 100000 in
theorem w3 : (Jvm.Cond.selects "HalfOrders" ({ cls := "HalfOrders", name := "answer", desc := "(I)I" } : Jvm.MethodName) ({ cls := "HalfOrders", name := "answer", desc := "(I)I" } : Jvm.MethodName)) ∈ mw_tbl := mw_of_priv (List.mem_of_getElem? (i := 3) rfl) rfl
set_option maxRecDepth 100000 in
theorem w4 : (Jvm.Cond.selects "HalfOrders" ({ cls := "HalfOrders", name := "find", desc := "(I)LHalfOrders$Order;" } : Jvm.MethodName) ({ cls := "HalfOrders", name := "find", desc := "(I)LHalfOrders$Order;" } : Jvm.MethodName)) ∈ mw_tbl := mw_of_priv (List.mem_of_getElem? (i := 4) rfl) rfl
set_option maxRecDepth 100000 in
theorem w5 : (Jvm.Cond.selects "HalfOrders$Order" ({ cls := "HalfOrders$Order", name := "stepsTo", desc := "(II)I" } : Jvm.MethodName) ({ cls := "HalfOrders$Order", name := "stepsTo", desc := "(II)I" } : Jvm.MethodName)) ∈ mw_tbl := mw_of_priv (List.mem_of_getElem? (i := 5) rfl) rfl
set_option maxRecDepth 100000 in
theorem w6 : (Jvm.Cond.selects "HalfOrders$Order" ({ cls := "HalfOrders$Order", name := "allNextOver", desc := "(I)I" } : Jvm.MethodName) ({ cls := "HalfOrders$Order", name := "allNextOver", desc := "(I)I" } : Jvm.MethodName)) ∈ mw_tbl := mw_of_priv (List.mem_of_getElem? (i := 6) rfl) rfl
set_option maxRecDepth 100000 in
theorem w7 : (Jvm.Cond.selects "HalfOrders$Order" ({ cls := "HalfOrders$Order", name := "firstStep", desc := "(III)I" } : Jvm.MethodName) ({ cls := "HalfOrders$Order", name := "firstStep", desc := "(III)I" } : Jvm.MethodName)) ∈ mw_tbl := mw_of_priv (List.mem_of_getElem? (i := 7) rfl) rfl
set_option maxRecDepth 100000 in
theorem w8 : (Jvm.Cond.selects "HalfOrders$RowsOut" ({ cls := "HalfOrders$RowsOut", name := "countWays", desc := "(LHalfOrders$Order;)V" } : Jvm.MethodName) ({ cls := "HalfOrders$RowsOut", name := "countWays", desc := "(LHalfOrders$Order;)V" } : Jvm.MethodName)) ∈ mw_tbl := mw_of_priv (List.mem_of_getElem? (i := 8) rfl) rfl
set_option maxRecDepth 100000 in
theorem w9 : (Jvm.Cond.selects "HalfOrders$RowsOut" ({ cls := "HalfOrders$RowsOut", name := "spreadWays", desc := "(LHalfOrders$Order;I)V" } : Jvm.MethodName) ({ cls := "HalfOrders$RowsOut", name := "spreadWays", desc := "(LHalfOrders$Order;I)V" } : Jvm.MethodName)) ∈ mw_tbl := mw_of_priv (List.mem_of_getElem? (i := 9) rfl) rfl
set_option maxRecDepth 100000 in
theorem w10 : (Jvm.Cond.selects "HalfOrders$RowsOut" ({ cls := "HalfOrders$RowsOut", name := "gatherWays", desc := "(LHalfOrders$Order;I)V" } : Jvm.MethodName) ({ cls := "HalfOrders$RowsOut", name := "gatherWays", desc := "(LHalfOrders$Order;I)V" } : Jvm.MethodName)) ∈ mw_tbl := mw_of_priv (List.mem_of_getElem? (i := 10) rfl) rfl
set_option maxRecDepth 100000 in
theorem w11 : (Jvm.Cond.selects "HalfOrders" ({ cls := "HalfOrders", name := "emptyHand", desc := "()V" } : Jvm.MethodName) ({ cls := "HalfOrders", name := "emptyHand", desc := "()V" } : Jvm.MethodName)) ∈ mw_tbl := mw_of_priv (List.mem_of_getElem? (i := 11) rfl) rfl
set_option maxRecDepth 100000 in
theorem w12 : (Jvm.Cond.selects "HalfOrders$Order" ({ cls := "HalfOrders$Order", name := "isAntichain", desc := "(I)Z" } : Jvm.MethodName) ({ cls := "HalfOrders$Order", name := "isAntichain", desc := "(I)Z" } : Jvm.MethodName)) ∈ mw_tbl := mw_of_priv (List.mem_of_getElem? (i := 12) rfl) rfl
set_option maxRecDepth 100000 in
theorem w13 : (Jvm.Cond.selects "HalfOrders$Order" ({ cls := "HalfOrders$Order", name := "leastOf", desc := "(I)I" } : Jvm.MethodName) ({ cls := "HalfOrders$Order", name := "leastOf", desc := "(I)I" } : Jvm.MethodName)) ∈ mw_tbl := mw_of_priv (List.mem_of_getElem? (i := 13) rfl) rfl
set_option maxRecDepth 100000 in
theorem w14 : (Jvm.Cond.selects "HalfOrders$RowsOut" ({ cls := "HalfOrders$RowsOut", name := "spreadJumps", desc := "(LHalfOrders$Order;I)V" } : Jvm.MethodName) ({ cls := "HalfOrders$RowsOut", name := "spreadJumps", desc := "(LHalfOrders$Order;I)V" } : Jvm.MethodName)) ∈ mw_tbl := mw_of_priv (List.mem_of_getElem? (i := 14) rfl) rfl
set_option maxRecDepth 100000 in
theorem w15 : (Jvm.Cond.selects "HalfOrders$Bounds" ({ cls := "HalfOrders$Bounds", name := "isEvenAt", desc := "(III)Z" } : Jvm.MethodName) ({ cls := "HalfOrders$Bounds", name := "isEvenAt", desc := "(III)Z" } : Jvm.MethodName)) ∈ mw_tbl := mw_of_priv (List.mem_of_getElem? (i := 15) rfl) rfl
set_option maxRecDepth 100000 in
theorem w16 : (Jvm.Cond.selects "HalfOrders$Order" ({ cls := "HalfOrders$Order", name := "firstBentEnd", desc := "(II)I" } : Jvm.MethodName) ({ cls := "HalfOrders$Order", name := "firstBentEnd", desc := "(II)I" } : Jvm.MethodName)) ∈ mw_tbl := mw_of_priv (List.mem_of_getElem? (i := 16) rfl) rfl
set_option maxRecDepth 100000 in
theorem w17 : (Jvm.Cond.selects "HalfOrders$Search" ({ cls := "HalfOrders$Search", name := "growFirstRow", desc := "(LHalfOrders$Order;II)Z" } : Jvm.MethodName) ({ cls := "HalfOrders$Search", name := "growFirstRow", desc := "(LHalfOrders$Order;II)Z" } : Jvm.MethodName)) ∈ mw_tbl := mw_of_priv (List.mem_of_getElem? (i := 17) rfl) rfl
set_option maxRecDepth 100000 in
theorem w18 : (Jvm.Cond.selects "HalfOrders$Search" ({ cls := "HalfOrders$Search", name := "putIntoChains", desc := "(LHalfOrders$Order;III)Z" } : Jvm.MethodName) ({ cls := "HalfOrders$Search", name := "putIntoChains", desc := "(LHalfOrders$Order;III)Z" } : Jvm.MethodName)) ∈ mw_tbl := mw_of_priv (List.mem_of_getElem? (i := 18) rfl) rfl
set_option maxRecDepth 100000 in
theorem w19 : (Jvm.Cond.selects "HalfOrders$RowsOut" ({ cls := "HalfOrders$RowsOut", name := "waysThrough", desc := "(LHalfOrders$Order;II)I" } : Jvm.MethodName) ({ cls := "HalfOrders$RowsOut", name := "waysThrough", desc := "(LHalfOrders$Order;II)I" } : Jvm.MethodName)) ∈ mw_tbl := mw_of_priv (List.mem_of_getElem? (i := 19) rfl) rfl
set_option maxRecDepth 100000 in
theorem w20 : (Jvm.Cond.selects "HalfOrders$Search" ({ cls := "HalfOrders$Search", name := "placeInSecond", desc := "(LHalfOrders$Order;I)I" } : Jvm.MethodName) ({ cls := "HalfOrders$Search", name := "placeInSecond", desc := "(LHalfOrders$Order;I)I" } : Jvm.MethodName)) ∈ mw_tbl := mw_of_priv (List.mem_of_getElem? (i := 20) rfl) rfl
set_option maxRecDepth 100000 in
theorem w21 : (Jvm.Cond.selects "HalfOrders$Bounds" ({ cls := "HalfOrders$Bounds", name := "inverseFromLower", desc := "(LHalfOrders$Order;II)I" } : Jvm.MethodName) ({ cls := "HalfOrders$Bounds", name := "inverseFromLower", desc := "(LHalfOrders$Order;II)I" } : Jvm.MethodName)) ∈ mw_tbl := mw_of_priv (List.mem_of_getElem? (i := 21) rfl) rfl
set_option maxRecDepth 100000 in
theorem w22 : (Jvm.Cond.selects "HalfOrders$Search" ({ cls := "HalfOrders$Search", name := "giveMarks", desc := "(LHalfOrders$Order;[I)V" } : Jvm.MethodName) ({ cls := "HalfOrders$Search", name := "giveMarks", desc := "(LHalfOrders$Order;[I)V" } : Jvm.MethodName)) ∈ mw_tbl := mw_of_priv (List.mem_of_getElem? (i := 22) rfl) rfl
set_option maxRecDepth 100000 in
theorem w23 : (Jvm.Cond.selects "HalfOrders$Search" ({ cls := "HalfOrders$Search", name := "haveLikeMarks", desc := "(I)Z" } : Jvm.MethodName) ({ cls := "HalfOrders$Search", name := "haveLikeMarks", desc := "(I)Z" } : Jvm.MethodName)) ∈ mw_tbl := mw_of_priv (List.mem_of_getElem? (i := 23) rfl) rfl
set_option maxRecDepth 100000 in
theorem w24 : (Jvm.Cond.selects "HalfOrders$Search" ({ cls := "HalfOrders$Search", name := "growMap", desc := "(LHalfOrders$Order;LHalfOrders$Order;II)Z" } : Jvm.MethodName) ({ cls := "HalfOrders$Search", name := "growMap", desc := "(LHalfOrders$Order;LHalfOrders$Order;II)Z" } : Jvm.MethodName)) ∈ mw_tbl := mw_of_priv (List.mem_of_getElem? (i := 24) rfl) rfl
set_option maxRecDepth 100000 in
theorem w25 : (Jvm.Cond.selects "HalfOrders$Search" ({ cls := "HalfOrders$Search", name := "canBe", desc := "(LHalfOrders$Order;LHalfOrders$Order;II)Z" } : Jvm.MethodName) ({ cls := "HalfOrders$Search", name := "canBe", desc := "(LHalfOrders$Order;LHalfOrders$Order;II)Z" } : Jvm.MethodName)) ∈ mw_tbl := mw_of_priv (List.mem_of_getElem? (i := 25) rfl) rfl
set_option maxRecDepth 100000 in
theorem w26 : (Jvm.Cond.selects "HalfOrders" ({ cls := "HalfOrders", name := "findSheet", desc := "(I)LHalfOrders$Sheet;" } : Jvm.MethodName) ({ cls := "HalfOrders", name := "findSheet", desc := "(I)LHalfOrders$Sheet;" } : Jvm.MethodName)) ∈ mw_tbl := mw_of_priv (List.mem_of_getElem? (i := 26) rfl) rfl
set_option maxRecDepth 100000 in
theorem w27 : (Jvm.Cond.selects "HalfOrders" ({ cls := "HalfOrders", name := "takeForKind", desc := "(LHalfOrders$Order;I)I" } : Jvm.MethodName) ({ cls := "HalfOrders", name := "takeForKind", desc := "(LHalfOrders$Order;I)I" } : Jvm.MethodName)) ∈ mw_tbl := mw_of_priv (List.mem_of_getElem? (i := 27) rfl) rfl
set_option maxRecDepth 100000 in
theorem w28 : (Jvm.Cond.selects "HalfOrders" ({ cls := "HalfOrders", name := "readShort", desc := "(LHalfOrders$Sheet;I)I" } : Jvm.MethodName) ({ cls := "HalfOrders", name := "readShort", desc := "(LHalfOrders$Sheet;I)I" } : Jvm.MethodName)) ∈ mw_tbl := mw_of_priv (List.mem_of_getElem? (i := 28) rfl) rfl
set_option maxRecDepth 100000 in
theorem w29 : (Jvm.Cond.selects "HalfOrders" ({ cls := "HalfOrders", name := "copyBytes", desc := "(LHalfOrders$Sheet;I)I" } : Jvm.MethodName) ({ cls := "HalfOrders", name := "copyBytes", desc := "(LHalfOrders$Sheet;I)I" } : Jvm.MethodName)) ∈ mw_tbl := mw_of_priv (List.mem_of_getElem? (i := 29) rfl) rfl
set_option maxRecDepth 100000 in
theorem w30 : (Jvm.Cond.selects "HalfOrders" ({ cls := "HalfOrders", name := "putAmongStacks", desc := "(LHalfOrders$Order;)I" } : Jvm.MethodName) ({ cls := "HalfOrders", name := "putAmongStacks", desc := "(LHalfOrders$Order;)I" } : Jvm.MethodName)) ∈ mw_tbl := mw_of_priv (List.mem_of_getElem? (i := 30) rfl) rfl
set_option maxRecDepth 100000 in
theorem w31 : (Jvm.Cond.selects "HalfOrdersModel" ({ cls := "HalfOrdersModel", name := "newOrder", desc := "(II)I" } : Jvm.MethodName) ({ cls := "HalfOrdersModel", name := "newOrder", desc := "(II)I" } : Jvm.MethodName)) ∈ mw_tbl := mw_of_priv (List.mem_of_getElem? (i := 31) rfl) rfl
set_option maxRecDepth 100000 in
theorem w32 : (Jvm.Cond.selects "HalfOrdersModel" ({ cls := "HalfOrdersModel", name := "refused", desc := "(I)I" } : Jvm.MethodName) ({ cls := "HalfOrdersModel", name := "refused", desc := "(I)I" } : Jvm.MethodName)) ∈ mw_tbl := mw_of_priv (List.mem_of_getElem? (i := 32) rfl) rfl
set_option maxRecDepth 100000 in
theorem w33 : (Jvm.Cond.selects "HalfOrdersModel" ({ cls := "HalfOrdersModel", name := "done", desc := "(I)I" } : Jvm.MethodName) ({ cls := "HalfOrdersModel", name := "done", desc := "(I)I" } : Jvm.MethodName)) ∈ mw_tbl := mw_of_priv (List.mem_of_getElem? (i := 33) rfl) rfl
set_option maxRecDepth 100000 in
theorem w34 : (Jvm.Cond.selects "HalfOrdersModel" ({ cls := "HalfOrdersModel", name := "isThing", desc := "(II)Z" } : Jvm.MethodName) ({ cls := "HalfOrdersModel", name := "isThing", desc := "(II)Z" } : Jvm.MethodName)) ∈ mw_tbl := mw_of_priv (List.mem_of_getElem? (i := 34) rfl) rfl
set_option maxRecDepth 100000 in
theorem w35 : (Jvm.Cond.selects "HalfOrdersModel" ({ cls := "HalfOrdersModel", name := "isOrder", desc := "(I)Z" } : Jvm.MethodName) ({ cls := "HalfOrdersModel", name := "isOrder", desc := "(I)Z" } : Jvm.MethodName)) ∈ mw_tbl := mw_of_priv (List.mem_of_getElem? (i := 35) rfl) rfl
set_option maxRecDepth 100000 in
theorem w36 : (Jvm.Cond.selects "HalfOrdersModel" ({ cls := "HalfOrdersModel", name := "isBelow", desc := "(III)Z" } : Jvm.MethodName) ({ cls := "HalfOrdersModel", name := "isBelow", desc := "(III)Z" } : Jvm.MethodName)) ∈ mw_tbl := mw_of_priv (List.mem_of_getElem? (i := 36) rfl) rfl
set_option maxRecDepth 100000 in
theorem w37 : (Jvm.Cond.selects "HalfOrdersModel" ({ cls := "HalfOrdersModel", name := "findRound", desc := "(III)V" } : Jvm.MethodName) ({ cls := "HalfOrdersModel", name := "findRound", desc := "(III)V" } : Jvm.MethodName)) ∈ mw_tbl := mw_of_priv (List.mem_of_getElem? (i := 37) rfl) rfl
set_option maxRecDepth 100000 in
theorem w38 : (Jvm.Cond.selects "HalfOrdersModel" ({ cls := "HalfOrdersModel", name := "isNext", desc := "(III)Z" } : Jvm.MethodName) ({ cls := "HalfOrdersModel", name := "isNext", desc := "(III)Z" } : Jvm.MethodName)) ∈ mw_tbl := mw_of_priv (List.mem_of_getElem? (i := 38) rfl) rfl
set_option maxRecDepth 100000 in
theorem w39 : (Jvm.Cond.selects "HalfOrdersModel" ({ cls := "HalfOrdersModel", name := "tell", desc := "(III)V" } : Jvm.MethodName) ({ cls := "HalfOrdersModel", name := "tell", desc := "(III)V" } : Jvm.MethodName)) ∈ mw_tbl := mw_of_priv (List.mem_of_getElem? (i := 39) rfl) rfl
set_option maxRecDepth 100000 in
theorem w40 : (Jvm.Cond.selects "HalfOrdersModel" ({ cls := "HalfOrdersModel", name := "sideBySide", desc := "(IIZ)I" } : Jvm.MethodName) ({ cls := "HalfOrdersModel", name := "sideBySide", desc := "(IIZ)I" } : Jvm.MethodName)) ∈ mw_tbl := mw_of_priv (List.mem_of_getElem? (i := 40) rfl) rfl
set_option maxRecDepth 100000 in
theorem w41 : (Jvm.Cond.selects "HalfOrdersModel" ({ cls := "HalfOrdersModel", name := "lowSets", desc := "(I)I" } : Jvm.MethodName) ({ cls := "HalfOrdersModel", name := "lowSets", desc := "(I)I" } : Jvm.MethodName)) ∈ mw_tbl := mw_of_priv (List.mem_of_getElem? (i := 41) rfl) rfl
set_option maxRecDepth 100000 in
theorem w42 : (Jvm.Cond.selects "HalfOrdersModel" ({ cls := "HalfOrdersModel", name := "isLow", desc := "(II)Z" } : Jvm.MethodName) ({ cls := "HalfOrdersModel", name := "isLow", desc := "(II)Z" } : Jvm.MethodName)) ∈ mw_tbl := mw_of_priv (List.mem_of_getElem? (i := 42) rfl) rfl
set_option maxRecDepth 100000 in
theorem w43 : (Jvm.Cond.selects "HalfOrdersModel" ({ cls := "HalfOrdersModel", name := "lowSet", desc := "(II)I" } : Jvm.MethodName) ({ cls := "HalfOrdersModel", name := "lowSet", desc := "(II)I" } : Jvm.MethodName)) ∈ mw_tbl := mw_of_priv (List.mem_of_getElem? (i := 43) rfl) rfl
set_option maxRecDepth 100000 in
theorem w44 : (Jvm.Cond.selects "HalfOrdersModel" ({ cls := "HalfOrdersModel", name := "find", desc := "(II)Z" } : Jvm.MethodName) ({ cls := "HalfOrdersModel", name := "find", desc := "(II)Z" } : Jvm.MethodName)) ∈ mw_tbl := mw_of_priv (List.mem_of_getElem? (i := 44) rfl) rfl
set_option maxRecDepth 100000 in
theorem w45 : (Jvm.Cond.selects "HalfOrdersModel" ({ cls := "HalfOrdersModel", name := "count0", desc := "(I)I" } : Jvm.MethodName) ({ cls := "HalfOrdersModel", name := "count0", desc := "(I)I" } : Jvm.MethodName)) ∈ mw_tbl := mw_of_priv (List.mem_of_getElem? (i := 45) rfl) rfl
set_option maxRecDepth 100000 in
theorem w46 : (Jvm.Cond.selects "HalfOrdersModel" ({ cls := "HalfOrdersModel", name := "layAll", desc := "(III)V" } : Jvm.MethodName) ({ cls := "HalfOrdersModel", name := "layAll", desc := "(III)V" } : Jvm.MethodName)) ∈ mw_tbl := mw_of_priv (List.mem_of_getElem? (i := 46) rfl) rfl
set_option maxRecDepth 100000 in
theorem w47 : (Jvm.Cond.selects "HalfOrdersModel" ({ cls := "HalfOrdersModel", name := "may", desc := "(IIIII)Z" } : Jvm.MethodName) ({ cls := "HalfOrdersModel", name := "may", desc := "(IIIII)Z" } : Jvm.MethodName)) ∈ mw_tbl := mw_of_priv (List.mem_of_getElem? (i := 47) rfl) rfl
set_option maxRecDepth 100000 in
theorem w48 : (Jvm.Cond.selects "HalfOrdersModel" ({ cls := "HalfOrdersModel", name := "isApart", desc := "(III)Z" } : Jvm.MethodName) ({ cls := "HalfOrdersModel", name := "isApart", desc := "(III)Z" } : Jvm.MethodName)) ∈ mw_tbl := mw_of_priv (List.mem_of_getElem? (i := 48) rfl) rfl
set_option maxRecDepth 100000 in
theorem w49 : (Jvm.Cond.selects "HalfOrdersModel" ({ cls := "HalfOrdersModel", name := "widest0", desc := "(I)I" } : Jvm.MethodName) ({ cls := "HalfOrdersModel", name := "widest0", desc := "(I)I" } : Jvm.MethodName)) ∈ mw_tbl := mw_of_priv (List.mem_of_getElem? (i := 49) rfl) rfl
set_option maxRecDepth 100000 in
theorem w50 : (Jvm.Cond.selects "HalfOrdersModel" ({ cls := "HalfOrdersModel", name := "isAntichain", desc := "(II)Z" } : Jvm.MethodName) ({ cls := "HalfOrdersModel", name := "isAntichain", desc := "(II)Z" } : Jvm.MethodName)) ∈ mw_tbl := mw_of_priv (List.mem_of_getElem? (i := 50) rfl) rfl
set_option maxRecDepth 100000 in
theorem w51 : (Jvm.Cond.selects "HalfOrdersModel" ({ cls := "HalfOrdersModel", name := "layer", desc := "(II)I" } : Jvm.MethodName) ({ cls := "HalfOrdersModel", name := "layer", desc := "(II)I" } : Jvm.MethodName)) ∈ mw_tbl := mw_of_priv (List.mem_of_getElem? (i := 51) rfl) rfl
set_option maxRecDepth 100000 in
theorem w52 : (Jvm.Cond.selects "HalfOrdersModel" ({ cls := "HalfOrdersModel", name := "findChains", desc := "(I)V" } : Jvm.MethodName) ({ cls := "HalfOrdersModel", name := "findChains", desc := "(I)V" } : Jvm.MethodName)) ∈ mw_tbl := mw_of_priv (List.mem_of_getElem? (i := 52) rfl) rfl
set_option maxRecDepth 100000 in
theorem w53 : (Jvm.Cond.selects "HalfOrdersModel" ({ cls := "HalfOrdersModel", name := "fitsChain", desc := "(IIII)Z" } : Jvm.MethodName) ({ cls := "HalfOrdersModel", name := "fitsChain", desc := "(IIII)Z" } : Jvm.MethodName)) ∈ mw_tbl := mw_of_priv (List.mem_of_getElem? (i := 53) rfl) rfl
set_option maxRecDepth 100000 in
theorem w54 : (Jvm.Cond.selects "HalfOrdersModel" ({ cls := "HalfOrdersModel", name := "findTwo", desc := "(I)V" } : Jvm.MethodName) ({ cls := "HalfOrdersModel", name := "findTwo", desc := "(I)V" } : Jvm.MethodName)) ∈ mw_tbl := mw_of_priv (List.mem_of_getElem? (i := 54) rfl) rfl
set_option maxRecDepth 100000 in
theorem w55 : (Jvm.Cond.selects "HalfOrdersModel" ({ cls := "HalfOrdersModel", name := "fitsTwo", desc := "(III)Z" } : Jvm.MethodName) ({ cls := "HalfOrdersModel", name := "fitsTwo", desc := "(III)Z" } : Jvm.MethodName)) ∈ mw_tbl := mw_of_priv (List.mem_of_getElem? (i := 55) rfl) rfl
set_option maxRecDepth 100000 in
theorem w56 : (Jvm.Cond.selects "HalfOrdersModel" ({ cls := "HalfOrdersModel", name := "bound0", desc := "(IIII)I" } : Jvm.MethodName) ({ cls := "HalfOrdersModel", name := "bound0", desc := "(IIII)I" } : Jvm.MethodName)) ∈ mw_tbl := mw_of_priv (List.mem_of_getElem? (i := 56) rfl) rfl
set_option maxRecDepth 100000 in
theorem w57 : (Jvm.Cond.selects "HalfOrdersModel" ({ cls := "HalfOrdersModel", name := "isOn", desc := "(IIII)Z" } : Jvm.MethodName) ({ cls := "HalfOrdersModel", name := "isOn", desc := "(IIII)Z" } : Jvm.MethodName)) ∈ mw_tbl := mw_of_priv (List.mem_of_getElem? (i := 57) rfl) rfl
set_option maxRecDepth 100000 in
theorem w58 : (Jvm.Cond.selects "HalfOrdersModel" ({ cls := "HalfOrdersModel", name := "isLattice", desc := "(I)Z" } : Jvm.MethodName) ({ cls := "HalfOrdersModel", name := "isLattice", desc := "(I)Z" } : Jvm.MethodName)) ∈ mw_tbl := mw_of_priv (List.mem_of_getElem? (i := 58) rfl) rfl
set_option maxRecDepth 100000 in
theorem w59 : (Jvm.Cond.selects "HalfOrdersModel" ({ cls := "HalfOrdersModel", name := "uneven0", desc := "(I)I" } : Jvm.MethodName) ({ cls := "HalfOrdersModel", name := "uneven0", desc := "(I)I" } : Jvm.MethodName)) ∈ mw_tbl := mw_of_priv (List.mem_of_getElem? (i := 59) rfl) rfl
set_option maxRecDepth 100000 in
theorem w60 : (Jvm.Cond.selects "HalfOrdersModel" ({ cls := "HalfOrdersModel", name := "isBent", desc := "(IIIII)Z" } : Jvm.MethodName) ({ cls := "HalfOrdersModel", name := "isBent", desc := "(IIIII)Z" } : Jvm.MethodName)) ∈ mw_tbl := mw_of_priv (List.mem_of_getElem? (i := 60) rfl) rfl
set_option maxRecDepth 100000 in
theorem w61 : (Jvm.Cond.selects "HalfOrdersModel" ({ cls := "HalfOrdersModel", name := "levelOf", desc := "(II)I" } : Jvm.MethodName) ({ cls := "HalfOrdersModel", name := "levelOf", desc := "(II)I" } : Jvm.MethodName)) ∈ mw_tbl := mw_of_priv (List.mem_of_getElem? (i := 61) rfl) rfl
set_option maxRecDepth 100000 in
theorem w62 : (Jvm.Cond.selects "HalfOrdersModel" ({ cls := "HalfOrdersModel", name := "ofLevel", desc := "(II)I" } : Jvm.MethodName) ({ cls := "HalfOrdersModel", name := "ofLevel", desc := "(II)I" } : Jvm.MethodName)) ∈ mw_tbl := mw_of_priv (List.mem_of_getElem? (i := 62) rfl) rfl
set_option maxRecDepth 100000 in
theorem w63 : (Jvm.Cond.selects "HalfOrdersModel" ({ cls := "HalfOrdersModel", name := "fitsMap", desc := "(IIII)Z" } : Jvm.MethodName) ({ cls := "HalfOrdersModel", name := "fitsMap", desc := "(IIII)Z" } : Jvm.MethodName)) ∈ mw_tbl := mw_of_priv (List.mem_of_getElem? (i := 63) rfl) rfl
set_option maxRecDepth 100000 in
theorem w64 : (Jvm.Cond.selects "HalfOrdersModel" ({ cls := "HalfOrdersModel", name := "pairsOf", desc := "(I)I" } : Jvm.MethodName) ({ cls := "HalfOrdersModel", name := "pairsOf", desc := "(I)I" } : Jvm.MethodName)) ∈ mw_tbl := mw_of_priv (List.mem_of_getElem? (i := 64) rfl) rfl
set_option maxRecDepth 100000 in
theorem w65 : (Jvm.Cond.selects "HalfOrdersModel" ({ cls := "HalfOrdersModel", name := "nextsOf", desc := "(I)I" } : Jvm.MethodName) ({ cls := "HalfOrdersModel", name := "nextsOf", desc := "(I)I" } : Jvm.MethodName)) ∈ mw_tbl := mw_of_priv (List.mem_of_getElem? (i := 65) rfl) rfl
set_option maxRecDepth 100000 in
theorem w66 : (Jvm.Cond.selects "HalfOrdersModel" ({ cls := "HalfOrdersModel", name := "height", desc := "(I)I" } : Jvm.MethodName) ({ cls := "HalfOrdersModel", name := "height", desc := "(I)I" } : Jvm.MethodName)) ∈ mw_tbl := mw_of_priv (List.mem_of_getElem? (i := 66) rfl) rfl
set_option maxRecDepth 100000 in
theorem w67 : (Jvm.Cond.selects "HalfOrdersModel" ({ cls := "HalfOrdersModel", name := "leastJumps", desc := "(I)I" } : Jvm.MethodName) ({ cls := "HalfOrdersModel", name := "leastJumps", desc := "(I)I" } : Jvm.MethodName)) ∈ mw_tbl := mw_of_priv (List.mem_of_getElem? (i := 67) rfl) rfl
set_option maxRecDepth 100000 in
theorem w68 : (Jvm.Cond.selects "HalfOrdersModel" ({ cls := "HalfOrdersModel", name := "truth", desc := "(II)I" } : Jvm.MethodName) ({ cls := "HalfOrdersModel", name := "truth", desc := "(II)I" } : Jvm.MethodName)) ∈ mw_tbl := mw_of_priv (List.mem_of_getElem? (i := 68) rfl) rfl
set_option maxRecDepth 100000 in
theorem w69 : (Jvm.Cond.selects "HalfOrdersModel" ({ cls := "HalfOrdersModel", name := "lacking", desc := "()I" } : Jvm.MethodName) ({ cls := "HalfOrdersModel", name := "lacking", desc := "()I" } : Jvm.MethodName)) ∈ mw_tbl := mw_of_priv (List.mem_of_getElem? (i := 69) rfl) rfl
set_option maxRecDepth 100000 in
theorem w70 : (Jvm.Cond.selects "HalfOrdersModel" ({ cls := "HalfOrdersModel", name := "isRowOut", desc := "()Z" } : Jvm.MethodName) ({ cls := "HalfOrdersModel", name := "isRowOut", desc := "()Z" } : Jvm.MethodName)) ∈ mw_tbl := mw_of_priv (List.mem_of_getElem? (i := 70) rfl) rfl
set_option maxRecDepth 100000 in
theorem w71 : (Jvm.Cond.selects "HalfOrdersModel" ({ cls := "HalfOrdersModel", name := "rank", desc := "()I" } : Jvm.MethodName) ({ cls := "HalfOrdersModel", name := "rank", desc := "()I" } : Jvm.MethodName)) ∈ mw_tbl := mw_of_priv (List.mem_of_getElem? (i := 71) rfl) rfl
set_option maxRecDepth 100000 in
theorem w72 : (Jvm.Cond.selects "HalfOrdersModel" ({ cls := "HalfOrdersModel", name := "placeOf", desc := "(I)I" } : Jvm.MethodName) ({ cls := "HalfOrdersModel", name := "placeOf", desc := "(I)I" } : Jvm.MethodName)) ∈ mw_tbl := mw_of_priv (List.mem_of_getElem? (i := 72) rfl) rfl
set_option maxRecDepth 100000 in
theorem w73 : (Jvm.Cond.selects "HalfOrdersModel" ({ cls := "HalfOrdersModel", name := "look0", desc := "(II)I" } : Jvm.MethodName) ({ cls := "HalfOrdersModel", name := "look0", desc := "(II)I" } : Jvm.MethodName)) ∈ mw_tbl := mw_of_priv (List.mem_of_getElem? (i := 73) rfl) rfl
set_option maxRecDepth 100000 in
theorem w74 : (Jvm.Cond.selects "HalfOrdersModel" ({ cls := "HalfOrdersModel", name := "ran", desc := "(I)V" } : Jvm.MethodName) ({ cls := "HalfOrdersModel", name := "ran", desc := "(I)V" } : Jvm.MethodName)) ∈ mw_tbl := mw_of_priv (List.mem_of_getElem? (i := 74) rfl) rfl
set_option maxRecDepth 100000 in
theorem w75 : (Jvm.Cond.selects "HalfOrdersModel" ({ cls := "HalfOrdersModel", name := "stackLook", desc := "(II)I" } : Jvm.MethodName) ({ cls := "HalfOrdersModel", name := "stackLook", desc := "(II)I" } : Jvm.MethodName)) ∈ mw_tbl := mw_of_priv (List.mem_of_getElem? (i := 75) rfl) rfl
set_option maxRecDepth 100000 in
theorem w76 : (Jvm.Cond.selects "HalfOrdersModel" ({ cls := "HalfOrdersModel", name := "isStack", desc := "(I)Z" } : Jvm.MethodName) ({ cls := "HalfOrdersModel", name := "isStack", desc := "(I)Z" } : Jvm.MethodName)) ∈ mw_tbl := mw_of_priv (List.mem_of_getElem? (i := 76) rfl) rfl
set_option maxRecDepth 100000 in
theorem w77 : (Jvm.Cond.selects "HalfOrdersModel" ({ cls := "HalfOrdersModel", name := "part0", desc := "(II)I" } : Jvm.MethodName) ({ cls := "HalfOrdersModel", name := "part0", desc := "(II)I" } : Jvm.MethodName)) ∈ mw_tbl := mw_of_priv (List.mem_of_getElem? (i := 77) rfl) rfl
set_option maxRecDepth 100000 in
theorem w78 : (Jvm.Cond.selects "HalfOrdersModel" ({ cls := "HalfOrdersModel", name := "join0", desc := "(II)I" } : Jvm.MethodName) ({ cls := "HalfOrdersModel", name := "join0", desc := "(II)I" } : Jvm.MethodName)) ∈ mw_tbl := mw_of_priv (List.mem_of_getElem? (i := 78) rfl) rfl
set_option maxRecDepth 100000 in
theorem w79 : (Jvm.Cond.selects "HalfOrdersModel" ({ cls := "HalfOrdersModel", name := "tell0", desc := "(II)I" } : Jvm.MethodName) ({ cls := "HalfOrdersModel", name := "tell0", desc := "(II)I" } : Jvm.MethodName)) ∈ mw_tbl := mw_of_priv (List.mem_of_getElem? (i := 79) rfl) rfl
set_option maxRecDepth 100000 in
theorem w80 : (Jvm.Cond.selects "HalfOrdersModel" ({ cls := "HalfOrdersModel", name := "orderTell", desc := "(II)I" } : Jvm.MethodName) ({ cls := "HalfOrdersModel", name := "orderTell", desc := "(II)I" } : Jvm.MethodName)) ∈ mw_tbl := mw_of_priv (List.mem_of_getElem? (i := 80) rfl) rfl
set_option maxRecDepth 100000 in
theorem w81 : (Jvm.Cond.selects "HalfOrdersModel" ({ cls := "HalfOrdersModel", name := "goes", desc := "(III)Z" } : Jvm.MethodName) ({ cls := "HalfOrdersModel", name := "goes", desc := "(III)Z" } : Jvm.MethodName)) ∈ mw_tbl := mw_of_priv (List.mem_of_getElem? (i := 81) rfl) rfl
set_option maxRecDepth 100000 in
theorem w82 : (Jvm.Cond.selects "HalfOrdersModel" ({ cls := "HalfOrdersModel", name := "orderTaken", desc := "(II)I" } : Jvm.MethodName) ({ cls := "HalfOrdersModel", name := "orderTaken", desc := "(II)I" } : Jvm.MethodName)) ∈ mw_tbl := mw_of_priv (List.mem_of_getElem? (i := 82) rfl) rfl
set_option maxRecDepth 100000 in
theorem w83 : (Jvm.Cond.selects "HalfOrdersModel" ({ cls := "HalfOrdersModel", name := "copied", desc := "(II)I" } : Jvm.MethodName) ({ cls := "HalfOrdersModel", name := "copied", desc := "(II)I" } : Jvm.MethodName)) ∈ mw_tbl := mw_of_priv (List.mem_of_getElem? (i := 83) rfl) rfl
set_option maxRecDepth 100000 in
theorem w84 : (Jvm.Cond.initialized "HalfOrdersLaw") ∈ mw_tbl := mwt_1 0 rfl rfl
set_option maxRecDepth 100000 in
theorem w85 : (Jvm.Cond.initialized "HalfOrders") ∈ mw_tbl := mwt_1 1 rfl rfl
set_option maxRecDepth 100000 in
theorem w86 : (Jvm.Cond.initialized "HalfOrders$Line") ∈ mw_tbl := mwt_1 2 rfl rfl
set_option maxRecDepth 100000 in
theorem w87 : (Jvm.Cond.initialized "java/lang/Math") ∈ mw_tbl := mwt_1 3 rfl rfl
set_option maxRecDepth 100000 in
theorem w88 : (Jvm.Cond.initialized "HalfOrders$RowsOut") ∈ mw_tbl := mwt_1 4 rfl rfl
set_option maxRecDepth 100000 in
theorem w89 : (Jvm.Cond.initialized "HalfOrders$Bounds") ∈ mw_tbl := mwt_1 5 rfl rfl
set_option maxRecDepth 100000 in
theorem w90 : (Jvm.Cond.initialized "HalfOrders$Search") ∈ mw_tbl := mwt_1 6 rfl rfl
set_option maxRecDepth 100000 in
theorem w91 : (Jvm.Cond.initialized "HalfOrders$Sheet") ∈ mw_tbl := mwt_1 7 rfl rfl
set_option maxRecDepth 100000 in
theorem w92 : (Jvm.Cond.initialized "HalfOrdersModel") ∈ mw_tbl := mwt_1 8 rfl rfl
set_option maxRecDepth 100000 in
theorem w93 : (Jvm.Cond.initialized "HalfOrders$Order") ∈ mw_tbl := mwt_1 9 rfl rfl
set_option maxRecDepth 100000 in
theorem w94 : (Jvm.Cond.initialized "HalfOrders$Stack") ∈ mw_tbl := mwt_1 10 rfl rfl
set_option maxRecDepth 100000 in
theorem w95 : (Jvm.Cond.initialized "HalfOrders$Beside") ∈ mw_tbl := mwt_1 11 rfl rfl
set_option maxRecDepth 100000 in
theorem w96 : (Jvm.Cond.initialized "HalfOrders$Times") ∈ mw_tbl := mwt_1 12 rfl rfl
set_option maxRecDepth 100000 in
theorem w97 : (Jvm.Cond.initialized "HalfOrders$Held") ∈ mw_tbl := mwt_1 13 rfl rfl
set_option maxRecDepth 100000 in
theorem w98 : (Jvm.Cond.initialized "HalfOrders$Row") ∈ mw_tbl := mwt_1 14 rfl rfl
set_option maxRecDepth 100000 in
theorem w99 : (Jvm.Cond.initialized "java/lang/Integer") ∈ mw_tbl := mwt_1 15 rfl rfl
set_option maxRecDepth 100000 in
theorem w100 : (Jvm.Cond.initialized "java/util/Arrays") ∈ mw_tbl := mwt_1 16 rfl rfl
set_option maxRecDepth 100000 in
theorem w101 : (Jvm.Cond.classLink "HalfOrdersLaw" (7 : Nat) "HalfOrders") ∈ mw_tbl := mwt_1 17 rfl rfl
set_option maxRecDepth 100000 in
theorem w102 : (Jvm.Cond.instantiable "HalfOrders" (12 : Nat)) ∈ mw_tbl := mwt_1 18 rfl rfl
set_option maxRecDepth 100000 in
theorem w106 : (Jvm.Cond.methodLink "HalfOrders" (1 : Nat) ({ cls := "java/lang/Object", name := "<init>", desc := "()V" } : Jvm.MethodName)) ∈ mw_tbl := mwt_1 22 rfl rfl
set_option maxRecDepth 100000 in
theorem w107 : (Jvm.Cond.instanceMethod ({ cls := "java/lang/Object", name := "<init>", desc := "()V" } : Jvm.MethodName)) ∈ mw_tbl := mwt_1 23 rfl rfl
set_option maxRecDepth 100000 in
theorem w108 : (Jvm.Cond.code ({ cls := "java/lang/Object", name := "<init>", desc := "()V" } : Jvm.MethodName) object_method_1_code (1 : Nat) (Option.none : Option Jvm.ClassFile.FieldType)) ∈ mw_tbl := mwt_1 24 rfl rfl
set_option maxRecDepth 100000 in
theorem w109 : (Jvm.Cond.classLink "HalfOrders" (9 : Nat) "HalfOrders$Order") ∈ mw_tbl := mwt_1 25 rfl rfl
set_option maxRecDepth 100000 in
theorem w111 : (Jvm.Cond.classLink "HalfOrders" (19 : Nat) "HalfOrders$Line") ∈ mw_tbl := mwt_1 27 rfl rfl
set_option maxRecDepth 100000 in
theorem w112 : (Jvm.Cond.instantiable "HalfOrders$Line" (2 : Nat)) ∈ mw_tbl := mwt_1 28 rfl rfl
set_option maxRecDepth 100000 in
theorem w113 : (Jvm.Cond.methodLink "HalfOrders" (21 : Nat) ({ cls := "HalfOrders$Line", name := "<init>", desc := "(I)V" } : Jvm.MethodName)) ∈ mw_tbl := mwt_1 29 rfl rfl
set_option maxRecDepth 100000 in
theorem w114 : (Jvm.Cond.instanceMethod ({ cls := "HalfOrders$Line", name := "<init>", desc := "(I)V" } : Jvm.MethodName)) ∈ mw_tbl := mwt_1 30 rfl rfl
set_option maxRecDepth 100000 in
theorem w115 : (Jvm.Cond.code ({ cls := "HalfOrders$Line", name := "<init>", desc := "(I)V" } : Jvm.MethodName) prog_5_method_1_code (2 : Nat) (Option.none : Option Jvm.ClassFile.FieldType)) ∈ mw_tbl := mwt_1 31 rfl rfl
set_option maxRecDepth 100000 in
theorem w116 : (Jvm.Cond.methodLink "HalfOrders$Line" (3 : Nat) ({ cls := "java/lang/Object", name := "<init>", desc := "()V" } : Jvm.MethodName)) ∈ mw_tbl := mwt_1 32 rfl rfl
set_option maxRecDepth 100000 in
theorem w117 : (Jvm.Cond.methodLink "HalfOrders$Line" (15 : Nat) ({ cls := "java/lang/Math", name := "max", desc := "(II)I" } : Jvm.MethodName)) ∈ mw_tbl := mwt_1 33 rfl rfl
set_option maxRecDepth 100000 in
theorem w118 : (Jvm.Cond.static ({ cls := "java/lang/Math", name := "max", desc := "(II)I" } : Jvm.MethodName)) ∈ mw_tbl := mwt_1 34 rfl rfl
set_option maxRecDepth 100000 in
theorem w119 : (Jvm.Cond.code ({ cls := "java/lang/Math", name := "max", desc := "(II)I" } : Jvm.MethodName) prog_16_method_65_code (2 : Nat) (Option.some Jvm.ClassFile.FieldType.int)) ∈ mw_tbl := mwt_1 35 rfl rfl
set_option maxRecDepth 100000 in
theorem w120 : (Jvm.Cond.fieldLink "HalfOrders$Line" (21 : Nat) "HalfOrders$Line" "items" "[I") ∈ mw_tbl := mwt_1 36 rfl rfl
set_option maxRecDepth 100000 in
theorem w121 : (Jvm.Cond.fieldLink "HalfOrders$Line" (9 : Nat) "HalfOrders$Line" "size" "I") ∈ mw_tbl := mwt_1 37 rfl rfl
set_option maxRecDepth 100000 in
theorem w122 : (Jvm.Cond.fieldLink "HalfOrders$Search" (105 : Nat) "HalfOrders$Line" "size" "I") ∈ mw_tbl := mwt_1 38 rfl rfl
set_option maxRecDepth 100000 in
theorem w123 : (Jvm.Cond.fieldLink "HalfOrders$RowsOut" (75 : Nat) "HalfOrders$Line" "size" "I") ∈ mw_tbl := mwt_1 39 rfl rfl
set_option maxRecDepth 100000 in
theorem w124 : (Jvm.Cond.fieldLink "HalfOrders" (199 : Nat) "HalfOrders$Line" "size" "I") ∈ mw_tbl := mwt_1 40 rfl rfl
set_option maxRecDepth 100000 in
theorem w129 : (Jvm.Cond.superclass "HalfOrders$Line" "java/lang/Object") ∈ mw_tbl := mwt_1 45 rfl rfl
set_option maxRecDepth 100000 in
theorem w130 : (Jvm.Cond.arrayClass Jvm.ClassFile.FieldType.int) ∈ mw_tbl := mwt_1 46 rfl rfl
set_option maxRecDepth 100000 in
theorem w131 : (Jvm.Cond.classLink "HalfOrders" (37 : Nat) "HalfOrders$Sheet") ∈ mw_tbl := mwt_1 47 rfl rfl
set_option maxRecDepth 100000 in
theorem w133 : (Jvm.Cond.classLink "HalfOrders" (43 : Nat) "HalfOrders$RowsOut") ∈ mw_tbl := mwt_1 49 rfl rfl
set_option maxRecDepth 100000 in
theorem w134 : (Jvm.Cond.instantiable "HalfOrders$RowsOut" (6 : Nat)) ∈ mw_tbl := mwt_1 50 rfl rfl
set_option maxRecDepth 100000 in
theorem w135 : (Jvm.Cond.methodLink "HalfOrders" (45 : Nat) ({ cls := "HalfOrders$RowsOut", name := "<init>", desc := "()V" } : Jvm.MethodName)) ∈ mw_tbl := mwt_1 51 rfl rfl
set_option maxRecDepth 100000 in
theorem w136 : (Jvm.Cond.instanceMethod ({ cls := "HalfOrders$RowsOut", name := "<init>", desc := "()V" } : Jvm.MethodName)) ∈ mw_tbl := mwt_1 52 rfl rfl
set_option maxRecDepth 100000 in
theorem w137 : (Jvm.Cond.code ({ cls := "HalfOrders$RowsOut", name := "<init>", desc := "()V" } : Jvm.MethodName) prog_8_method_1_code (1 : Nat) (Option.none : Option Jvm.ClassFile.FieldType)) ∈ mw_tbl := mwt_1 53 rfl rfl
set_option maxRecDepth 100000 in
theorem w138 : (Jvm.Cond.methodLink "HalfOrders$RowsOut" (3 : Nat) ({ cls := "java/lang/Object", name := "<init>", desc := "()V" } : Jvm.MethodName)) ∈ mw_tbl := mwt_1 54 rfl rfl
set_option maxRecDepth 100000 in
theorem w139 : (Jvm.Cond.fieldLink "HalfOrders$RowsOut" (9 : Nat) "HalfOrders$RowsOut" "waysTo" "[I") ∈ mw_tbl := mwt_1 55 rfl rfl
set_option maxRecDepth 100000 in
theorem w140 : (Jvm.Cond.fieldLink "HalfOrders$RowsOut" (15 : Nat) "HalfOrders$RowsOut" "waysFrom" "[I") ∈ mw_tbl := mwt_1 56 rfl rfl
set_option maxRecDepth 100000 in
theorem w141 : (Jvm.Cond.fieldLink "HalfOrders$RowsOut" (18 : Nat) "HalfOrders$RowsOut" "jumpsTo" "[I") ∈ mw_tbl := mwt_1 57 rfl rfl
set_option maxRecDepth 100000 in
theorem w142 : (Jvm.Cond.fieldLink "HalfOrders$RowsOut" (21 : Nat) "HalfOrders$RowsOut" "lastOnes" "[I") ∈ mw_tbl := mwt_1 58 rfl rfl
set_option maxRecDepth 100000 in
theorem w143 : (Jvm.Cond.fieldLink "HalfOrders$RowsOut" (24 : Nat) "HalfOrders$RowsOut" "counted" "LHalfOrders$Order;") ∈ mw_tbl := mwt_1 59 rfl rfl
set_option maxRecDepth 100000 in
theorem w144 : (Jvm.Cond.fieldLink "HalfOrders$RowsOut" (28 : Nat) "HalfOrders$RowsOut" "countedPairs" "I") ∈ mw_tbl := mwt_1 60 rfl rfl
set_option maxRecDepth 100000 in
theorem w157 : (Jvm.Cond.superclass "HalfOrders$RowsOut" "java/lang/Object") ∈ mw_tbl := mwt_1 73 rfl rfl
set_option maxRecDepth 100000 in
theorem w158 : (Jvm.Cond.classLink "HalfOrders" (50 : Nat) "HalfOrders$Bounds") ∈ mw_tbl := mwt_1 74 rfl rfl
set_option maxRecDepth 100000 in
theorem w159 : (Jvm.Cond.instantiable "HalfOrders$Bounds" (3 : Nat)) ∈ mw_tbl := mwt_1 75 rfl rfl
set_option maxRecDepth 100000 in
theorem w160 : (Jvm.Cond.methodLink "HalfOrders" (52 : Nat) ({ cls := "HalfOrders$Bounds", name := "<init>", desc := "()V" } : Jvm.MethodName)) ∈ mw_tbl := mwt_1 76 rfl rfl
set_option maxRecDepth 100000 in
theorem w161 : (Jvm.Cond.instanceMethod ({ cls := "HalfOrders$Bounds", name := "<init>", desc := "()V" } : Jvm.MethodName)) ∈ mw_tbl := mwt_1 77 rfl rfl
set_option maxRecDepth 100000 in
theorem w162 : (Jvm.Cond.code ({ cls := "HalfOrders$Bounds", name := "<init>", desc := "()V" } : Jvm.MethodName) prog_3_method_1_code (1 : Nat) (Option.none : Option Jvm.ClassFile.FieldType)) ∈ mw_tbl := mwt_1 78 rfl rfl
set_option maxRecDepth 100000 in
theorem w163 : (Jvm.Cond.methodLink "HalfOrders$Bounds" (3 : Nat) ({ cls := "java/lang/Object", name := "<init>", desc := "()V" } : Jvm.MethodName)) ∈ mw_tbl := mwt_1 79 rfl rfl
set_option maxRecDepth 100000 in
theorem w164 : (Jvm.Cond.fieldLink "HalfOrders$Bounds" (9 : Nat) "HalfOrders$Bounds" "above" "[I") ∈ mw_tbl := mwt_1 80 rfl rfl
set_option maxRecDepth 100000 in
theorem w165 : (Jvm.Cond.fieldLink "HalfOrders$Bounds" (15 : Nat) "HalfOrders$Bounds" "meet" "[I") ∈ mw_tbl := mwt_1 81 rfl rfl
set_option maxRecDepth 100000 in
theorem w166 : (Jvm.Cond.fieldLink "HalfOrders$Bounds" (18 : Nat) "HalfOrders$Bounds" "inverses" "[I") ∈ mw_tbl := mwt_1 82 rfl rfl
set_option maxRecDepth 100000 in
theorem w173 : (Jvm.Cond.superclass "HalfOrders$Bounds" "java/lang/Object") ∈ mw_tbl := mwt_1 89 rfl rfl
set_option maxRecDepth 100000 in
theorem w174 : (Jvm.Cond.classLink "HalfOrders" (57 : Nat) "HalfOrders$Search") ∈ mw_tbl := mwt_1 90 rfl rfl
set_option maxRecDepth 100000 in
theorem w175 : (Jvm.Cond.instantiable "HalfOrders$Search" (6 : Nat)) ∈ mw_tbl := mwt_1 91 rfl rfl
set_option maxRecDepth 100000 in
theorem w176 : (Jvm.Cond.methodLink "HalfOrders" (59 : Nat) ({ cls := "HalfOrders$Search", name := "<init>", desc := "()V" } : Jvm.MethodName)) ∈ mw_tbl := mwt_1 92 rfl rfl
set_option maxRecDepth 100000 in
theorem w177 : (Jvm.Cond.instanceMethod ({ cls := "HalfOrders$Search", name := "<init>", desc := "()V" } : Jvm.MethodName)) ∈ mw_tbl := mwt_1 93 rfl rfl
set_option maxRecDepth 100000 in
theorem w178 : (Jvm.Cond.code ({ cls := "HalfOrders$Search", name := "<init>", desc := "()V" } : Jvm.MethodName) prog_9_method_1_code (1 : Nat) (Option.none : Option Jvm.ClassFile.FieldType)) ∈ mw_tbl := mwt_1 94 rfl rfl
set_option maxRecDepth 100000 in
theorem w179 : (Jvm.Cond.methodLink "HalfOrders$Search" (3 : Nat) ({ cls := "java/lang/Object", name := "<init>", desc := "()V" } : Jvm.MethodName)) ∈ mw_tbl := mwt_1 95 rfl rfl
set_option maxRecDepth 100000 in
theorem w180 : (Jvm.Cond.classLink "HalfOrders$Search" (9 : Nat) "HalfOrders$Line") ∈ mw_tbl := mwt_1 96 rfl rfl
set_option maxRecDepth 100000 in
theorem w181 : (Jvm.Cond.methodLink "HalfOrders$Search" (11 : Nat) ({ cls := "HalfOrders$Line", name := "<init>", desc := "(I)V" } : Jvm.MethodName)) ∈ mw_tbl := mwt_1 97 rfl rfl
set_option maxRecDepth 100000 in
theorem w182 : (Jvm.Cond.fieldLink "HalfOrders$Search" (14 : Nat) "HalfOrders$Search" "firstRow" "LHalfOrders$Line;") ∈ mw_tbl := mwt_1 98 rfl rfl
set_option maxRecDepth 100000 in
theorem w183 : (Jvm.Cond.fieldLink "HalfOrders" (239 : Nat) "HalfOrders$Search" "firstRow" "LHalfOrders$Line;") ∈ mw_tbl := mwt_1 99 rfl rfl
set_option maxRecDepth 100000 in
theorem w184 : (Jvm.Cond.fieldLink "HalfOrders$Search" (20 : Nat) "HalfOrders$Search" "chains" "[I") ∈ mw_tbl := mwt_1 100 rfl rfl
set_option maxRecDepth 100000 in
theorem w185 : (Jvm.Cond.fieldLink "HalfOrders$Search" (24 : Nat) "HalfOrders$Search" "chosen" "[I") ∈ mw_tbl := mwt_1 101 rfl rfl
set_option maxRecDepth 100000 in
theorem w186 : (Jvm.Cond.fieldLink "HalfOrders$Search" (27 : Nat) "HalfOrders$Search" "marks" "[I") ∈ mw_tbl := mwt_1 102 rfl rfl
set_option maxRecDepth 100000 in
theorem w187 : (Jvm.Cond.fieldLink "HalfOrders$Search" (30 : Nat) "HalfOrders$Search" "otherMarks" "[I") ∈ mw_tbl := mwt_1 103 rfl rfl
set_option maxRecDepth 100000 in
theorem w188 : (Jvm.Cond.fieldLink "HalfOrders$Search" (33 : Nat) "HalfOrders$Search" "newMarks" "[I") ∈ mw_tbl := mwt_1 104 rfl rfl
set_option maxRecDepth 100000 in
theorem w201 : (Jvm.Cond.superclass "HalfOrders$Search" "java/lang/Object") ∈ mw_tbl := mwt_1 117 rfl rfl
set_option maxRecDepth 100000 in
theorem w202 : (Jvm.Cond.instantiable "HalfOrders$Sheet" (3 : Nat)) ∈ mw_tbl := mwt_1 118 rfl rfl
set_option maxRecDepth 100000 in
theorem w203 : (Jvm.Cond.methodLink "HalfOrders" (70 : Nat) ({ cls := "HalfOrders$Sheet", name := "<init>", desc := "()V" } : Jvm.MethodName)) ∈ mw_tbl := mwt_1 119 rfl rfl
set_option maxRecDepth 100000 in
theorem w204 : (Jvm.Cond.instanceMethod ({ cls := "HalfOrders$Sheet", name := "<init>", desc := "()V" } : Jvm.MethodName)) ∈ mw_tbl := mwt_1 120 rfl rfl
set_option maxRecDepth 100000 in
theorem w205 : (Jvm.Cond.code ({ cls := "HalfOrders$Sheet", name := "<init>", desc := "()V" } : Jvm.MethodName) prog_10_method_1_code (1 : Nat) (Option.none : Option Jvm.ClassFile.FieldType)) ∈ mw_tbl := mwt_1 121 rfl rfl
set_option maxRecDepth 100000 in
theorem w206 : (Jvm.Cond.methodLink "HalfOrders$Sheet" (3 : Nat) ({ cls := "java/lang/Object", name := "<init>", desc := "()V" } : Jvm.MethodName)) ∈ mw_tbl := mwt_1 122 rfl rfl
set_option maxRecDepth 100000 in
theorem w207 : (Jvm.Cond.fieldLink "HalfOrders$Sheet" (9 : Nat) "HalfOrders$Sheet" "numbers" "[I") ∈ mw_tbl := mwt_1 123 rfl rfl
set_option maxRecDepth 100000 in
theorem w208 : (Jvm.Cond.fieldLink "HalfOrders" (310 : Nat) "HalfOrders$Sheet" "numbers" "[I") ∈ mw_tbl := mwt_1 124 rfl rfl
set_option maxRecDepth 100000 in
theorem w209 : (Jvm.Cond.fieldLink "HalfOrders$Sheet" (15 : Nat) "HalfOrders$Sheet" "sort" "I") ∈ mw_tbl := mwt_1 125 rfl rfl
set_option maxRecDepth 100000 in
theorem w210 : (Jvm.Cond.fieldLink "HalfOrders$Sheet" (19 : Nat) "HalfOrders$Sheet" "size" "I") ∈ mw_tbl := mwt_1 126 rfl rfl
set_option maxRecDepth 100000 in
theorem w211 : (Jvm.Cond.fieldLink "HalfOrders" (317 : Nat) "HalfOrders$Sheet" "size" "I") ∈ mw_tbl := mwt_1 127 rfl rfl
set_option maxRecDepth 100000 in
theorem w218 : (Jvm.Cond.superclass "HalfOrders$Sheet" "java/lang/Object") ∈ mw_tbl := mwt_1 134 rfl rfl
set_option maxRecDepth 100000 in
theorem w219 : (Jvm.Cond.fieldLink "HalfOrders" (11 : Nat) "HalfOrders" "orders" "[LHalfOrders$Order;") ∈ mw_tbl := mwt_1 135 rfl rfl
set_option maxRecDepth 100000 in
theorem w220 : (Jvm.Cond.fieldLink "HalfOrders" (15 : Nat) "HalfOrders" "orderCount" "I") ∈ mw_tbl := mwt_1 136 rfl rfl
set_option maxRecDepth 100000 in
theorem w221 : (Jvm.Cond.fieldLink "HalfOrders" (24 : Nat) "HalfOrders" "refusedPath" "LHalfOrders$Line;") ∈ mw_tbl := mwt_1 137 rfl rfl
set_option maxRecDepth 100000 in
theorem w222 : (Jvm.Cond.fieldLink "HalfOrders" (28 : Nat) "HalfOrders" "laid" "LHalfOrders$Line;") ∈ mw_tbl := mwt_1 138 rfl rfl
set_option maxRecDepth 100000 in
theorem w223 : (Jvm.Cond.fieldLink "HalfOrders" (31 : Nat) "HalfOrders" "laidFor" "I") ∈ mw_tbl := mwt_1 139 rfl rfl
set_option maxRecDepth 100000 in
theorem w224 : (Jvm.Cond.fieldLink "HalfOrders" (34 : Nat) "HalfOrders" "bodies" "LHalfOrders$Line;") ∈ mw_tbl := mwt_1 140 rfl rfl
set_option maxRecDepth 100000 in
theorem w225 : (Jvm.Cond.fieldLink "HalfOrders" (39 : Nat) "HalfOrders" "sheets" "[LHalfOrders$Sheet;") ∈ mw_tbl := mwt_1 141 rfl rfl
set_option maxRecDepth 100000 in
theorem w226 : (Jvm.Cond.fieldLink "HalfOrders" (46 : Nat) "HalfOrders" "rowsOut" "LHalfOrders$RowsOut;") ∈ mw_tbl := mwt_1 142 rfl rfl
set_option maxRecDepth 100000 in
theorem w227 : (Jvm.Cond.fieldLink "HalfOrders" (53 : Nat) "HalfOrders" "bounds" "LHalfOrders$Bounds;") ∈ mw_tbl := mwt_1 143 rfl rfl
set_option maxRecDepth 100000 in
theorem w228 : (Jvm.Cond.fieldLink "HalfOrders" (60 : Nat) "HalfOrders" "search" "LHalfOrders$Search;") ∈ mw_tbl := mwt_1 144 rfl rfl
set_option maxRecDepth 100000 in
theorem w229 : (Jvm.Cond.fieldLink "HalfOrders" (64 : Nat) "HalfOrders" "scratch" "LHalfOrders$Line;") ∈ mw_tbl := mwt_1 145 rfl rfl
set_option maxRecDepth 100000 in
theorem w230 : (Jvm.Cond.fieldLink "HalfOrders" (67 : Nat) "HalfOrders" "latest" "I") ∈ mw_tbl := mwt_1 146 rfl rfl
set_option maxRecDepth 100000 in
theorem w255 : (Jvm.Cond.superclass "HalfOrders" "java/lang/Object") ∈ mw_tbl := mwt_1 171 rfl rfl
set_option maxRecDepth 100000 in
theorem w260 : (Jvm.Cond.methodLink "HalfOrders" (71 : Nat) ({ cls := "HalfOrders", name := "refuse", desc := "(I)I" } : Jvm.MethodName)) ∈ mw_tbl := mwt_1 176 rfl rfl
set_option maxRecDepth 100000 in
theorem w262 : (Jvm.Cond.instanceMethod ({ cls := "HalfOrders", name := "refuse", desc := "(I)I" } : Jvm.MethodName)) ∈ mw_tbl := mwt_1 178 rfl rfl
set_option maxRecDepth 100000 in
theorem w263 : (Jvm.Cond.code ({ cls := "HalfOrders", name := "refuse", desc := "(I)I" } : Jvm.MethodName) prog_1_method_40_code (2 : Nat) (Option.some Jvm.ClassFile.FieldType.int)) ∈ mw_tbl := mwt_1 179 rfl rfl
set_option maxRecDepth 100000 in
theorem w264 : (Jvm.Cond.methodLink "HalfOrders" (75 : Nat) ({ cls := "HalfOrders", name := "hasRoom", desc := "(I)Z" } : Jvm.MethodName)) ∈ mw_tbl := mwt_1 180 rfl rfl
set_option maxRecDepth 100000 in
theorem w266 : (Jvm.Cond.instanceMethod ({ cls := "HalfOrders", name := "hasRoom", desc := "(I)Z" } : Jvm.MethodName)) ∈ mw_tbl := mwt_1 182 rfl rfl
set_option maxRecDepth 100000 in
theorem w267 : (Jvm.Cond.code ({ cls := "HalfOrders", name := "hasRoom", desc := "(I)Z" } : Jvm.MethodName) prog_1_method_44_code (2 : Nat) (Option.some Jvm.ClassFile.FieldType.boolean)) ∈ mw_tbl := mwt_1 183 rfl rfl
set_option maxRecDepth 100000 in
theorem w268 : (Jvm.Cond.instantiable "HalfOrders$Order" (5 : Nat)) ∈ mw_tbl := mwt_1 184 rfl rfl
set_option maxRecDepth 100000 in
theorem w269 : (Jvm.Cond.methodLink "HalfOrders" (79 : Nat) ({ cls := "HalfOrders$Order", name := "<init>", desc := "(II)V" } : Jvm.MethodName)) ∈ mw_tbl := mwt_1 185 rfl rfl
set_option maxRecDepth 100000 in
theorem w270 : (Jvm.Cond.instanceMethod ({ cls := "HalfOrders$Order", name := "<init>", desc := "(II)V" } : Jvm.MethodName)) ∈ mw_tbl := mwt_1 186 rfl rfl
set_option maxRecDepth 100000 in
theorem w271 : (Jvm.Cond.code ({ cls := "HalfOrders$Order", name := "<init>", desc := "(II)V" } : Jvm.MethodName) prog_6_method_1_code (3 : Nat) (Option.none : Option Jvm.ClassFile.FieldType)) ∈ mw_tbl := mwt_1 187 rfl rfl
set_option maxRecDepth 100000 in
theorem w272 : (Jvm.Cond.methodLink "HalfOrders$Order" (3 : Nat) ({ cls := "java/lang/Object", name := "<init>", desc := "()V" } : Jvm.MethodName)) ∈ mw_tbl := mwt_1 188 rfl rfl
set_option maxRecDepth 100000 in
theorem w273 : (Jvm.Cond.methodLink "HalfOrders$Order" (25 : Nat) ({ cls := "java/lang/Math", name := "max", desc := "(II)I" } : Jvm.MethodName)) ∈ mw_tbl := mwt_1 189 rfl rfl
set_option maxRecDepth 100000 in
theorem w274 : (Jvm.Cond.methodLink "HalfOrders$Order" (31 : Nat) ({ cls := "java/lang/Math", name := "min", desc := "(II)I" } : Jvm.MethodName)) ∈ mw_tbl := mwt_1 190 rfl rfl
set_option maxRecDepth 100000 in
theorem w275 : (Jvm.Cond.static ({ cls := "java/lang/Math", name := "min", desc := "(II)I" } : Jvm.MethodName)) ∈ mw_tbl := mwt_1 191 rfl rfl
set_option maxRecDepth 100000 in
theorem w276 : (Jvm.Cond.code ({ cls := "java/lang/Math", name := "min", desc := "(II)I" } : Jvm.MethodName) prog_16_method_69_code (2 : Nat) (Option.some Jvm.ClassFile.FieldType.int)) ∈ mw_tbl := mwt_1 192 rfl rfl
set_option maxRecDepth 100000 in
theorem w277 : (Jvm.Cond.fieldLink "HalfOrders$Order" (22 : Nat) "HalfOrders$Order" "number" "I") ∈ mw_tbl := mwt_1 193 rfl rfl
set_option maxRecDepth 100000 in
theorem w278 : (Jvm.Cond.fieldLink "HalfOrders$Order" (34 : Nat) "HalfOrders$Order" "n" "I") ∈ mw_tbl := mwt_1 194 rfl rfl
set_option maxRecDepth 100000 in
theorem w279 : (Jvm.Cond.fieldLink "HalfOrders$Bounds" (21 : Nat) "HalfOrders$Order" "n" "I") ∈ mw_tbl := mwt_1 195 rfl rfl
set_option maxRecDepth 100000 in
theorem w280 : (Jvm.Cond.fieldLink "HalfOrders$Search" (58 : Nat) "HalfOrders$Order" "n" "I") ∈ mw_tbl := mwt_1 196 rfl rfl
set_option maxRecDepth 100000 in
theorem w281 : (Jvm.Cond.fieldLink "HalfOrders$Held" (13 : Nat) "HalfOrders$Held" "n" "I") ∈ mw_tbl := mwt_1 197 rfl rfl
set_option maxRecDepth 100000 in
theorem w282 : (Jvm.Cond.sameField "HalfOrders$Held" "HalfOrders$Order" "n" "I") ∈ mw_tbl := mwt_1 198 rfl rfl
set_option maxRecDepth 100000 in
theorem w283 : (Jvm.Cond.fieldLink "HalfOrders$RowsOut" (51 : Nat) "HalfOrders$Order" "n" "I") ∈ mw_tbl := mwt_1 199 rfl rfl
set_option maxRecDepth 100000 in
theorem w284 : (Jvm.Cond.fieldLink "HalfOrders" (117 : Nat) "HalfOrders$Order" "n" "I") ∈ mw_tbl := mwt_1 200 rfl rfl
set_option maxRecDepth 100000 in
theorem w285 : (Jvm.Cond.fieldLink "HalfOrders$Order" (9 : Nat) "HalfOrders$Order" "down" "[I") ∈ mw_tbl := mwt_1 201 rfl rfl
set_option maxRecDepth 100000 in
theorem w286 : (Jvm.Cond.fieldLink "HalfOrders$RowsOut" (32 : Nat) "HalfOrders$Order" "down" "[I") ∈ mw_tbl := mwt_1 202 rfl rfl
set_option maxRecDepth 100000 in
theorem w287 : (Jvm.Cond.fieldLink "HalfOrders$Search" (62 : Nat) "HalfOrders$Order" "down" "[I") ∈ mw_tbl := mwt_1 203 rfl rfl
set_option maxRecDepth 100000 in
theorem w288 : (Jvm.Cond.fieldLink "HalfOrders$Bounds" (38 : Nat) "HalfOrders$Order" "down" "[I") ∈ mw_tbl := mwt_1 204 rfl rfl
set_option maxRecDepth 100000 in
theorem w289 : (Jvm.Cond.fieldLink "HalfOrders$Order" (15 : Nat) "HalfOrders$Order" "up" "[I") ∈ mw_tbl := mwt_1 205 rfl rfl
set_option maxRecDepth 100000 in
theorem w290 : (Jvm.Cond.fieldLink "HalfOrders$Search" (65 : Nat) "HalfOrders$Order" "up" "[I") ∈ mw_tbl := mwt_1 206 rfl rfl
set_option maxRecDepth 100000 in
theorem w291 : (Jvm.Cond.fieldLink "HalfOrders$Order" (18 : Nat) "HalfOrders$Order" "pairCount" "I") ∈ mw_tbl := mwt_1 207 rfl rfl
set_option maxRecDepth 100000 in
theorem w292 : (Jvm.Cond.fieldLink "HalfOrders$RowsOut" (37 : Nat) "HalfOrders$Order" "pairCount" "I") ∈ mw_tbl := mwt_1 208 rfl rfl
set_option maxRecDepth 100000 in
theorem w293 : (Jvm.Cond.fieldLink "HalfOrders$Times" (17 : Nat) "HalfOrders$Times" "pairCount" "I") ∈ mw_tbl := mwt_1 209 rfl rfl
set_option maxRecDepth 100000 in
theorem w294 : (Jvm.Cond.sameField "HalfOrders$Times" "HalfOrders$Order" "pairCount" "I") ∈ mw_tbl := mwt_1 210 rfl rfl
set_option maxRecDepth 100000 in
theorem w295 : (Jvm.Cond.fieldLink "HalfOrders" (168 : Nat) "HalfOrders$Order" "pairCount" "I") ∈ mw_tbl := mwt_1 211 rfl rfl
set_option maxRecDepth 100000 in
theorem w306 : (Jvm.Cond.superclass "HalfOrders$Order" "java/lang/Object") ∈ mw_tbl := mwt_1 222 rfl rfl
set_option maxRecDepth 100000 in
theorem w307 : (Jvm.Cond.methodLink "HalfOrders" (82 : Nat) ({ cls := "HalfOrders", name := "take", desc := "(LHalfOrders$Order;)I" } : Jvm.MethodName)) ∈ mw_tbl := mwt_1 223 rfl rfl
set_option maxRecDepth 100000 in
theorem w309 : (Jvm.Cond.instanceMethod ({ cls := "HalfOrders", name := "take", desc := "(LHalfOrders$Order;)I" } : Jvm.MethodName)) ∈ mw_tbl := mwt_1 225 rfl rfl
set_option maxRecDepth 100000 in
theorem w310 : (Jvm.Cond.code ({ cls := "HalfOrders", name := "take", desc := "(LHalfOrders$Order;)I" } : Jvm.MethodName) prog_1_method_45_code (2 : Nat) (Option.some Jvm.ClassFile.FieldType.int)) ∈ mw_tbl := mwt_1 226 rfl rfl
set_option maxRecDepth 100000 in
theorem w311 : (Jvm.Cond.methodLink "HalfOrders" (111 : Nat) ({ cls := "HalfOrders", name := "answer", desc := "(I)I" } : Jvm.MethodName)) ∈ mw_tbl := mwt_1 227 rfl rfl
set_option maxRecDepth 100000 in
theorem w313 : (Jvm.Cond.instanceMethod ({ cls := "HalfOrders", name := "answer", desc := "(I)I" } : Jvm.MethodName)) ∈ mw_tbl := mwt_1 229 rfl rfl
set_option maxRecDepth 100000 in
theorem w314 : (Jvm.Cond.code ({ cls := "HalfOrders", name := "answer", desc := "(I)I" } : Jvm.MethodName) prog_1_method_41_code (2 : Nat) (Option.some Jvm.ClassFile.FieldType.int)) ∈ mw_tbl := mwt_1 230 rfl rfl
set_option maxRecDepth 100000 in
theorem w319 : (Jvm.Cond.methodLink "HalfOrders" (86 : Nat) ({ cls := "HalfOrders", name := "find", desc := "(I)LHalfOrders$Order;" } : Jvm.MethodName)) ∈ mw_tbl := mwt_1 235 rfl rfl
set_option maxRecDepth 100000 in
theorem w321 : (Jvm.Cond.instanceMethod ({ cls := "HalfOrders", name := "find", desc := "(I)LHalfOrders$Order;" } : Jvm.MethodName)) ∈ mw_tbl := mwt_1 237 rfl rfl
set_option maxRecDepth 100000 in
theorem w322 : (Jvm.Cond.code ({ cls := "HalfOrders", name := "find", desc := "(I)LHalfOrders$Order;" } : Jvm.MethodName) prog_1_method_42_code (2 : Nat) (Option.some (Jvm.ClassFile.FieldType.object "HalfOrders$Order"))) ∈ mw_tbl := mwt_1 238 rfl rfl
set_option maxRecDepth 100000 in
theorem w323 : (Jvm.Cond.methodLink "HalfOrders" (90 : Nat) ({ cls := "HalfOrders$Order", name := "hasThings", desc := "(II)Z" } : Jvm.MethodName)) ∈ mw_tbl := mwt_1 239 rfl rfl
set_option maxRecDepth 100000 in
theorem w324 : (Jvm.Cond.instanceMethod ({ cls := "HalfOrders$Order", name := "hasThings", desc := "(II)Z" } : Jvm.MethodName)) ∈ mw_tbl := mwt_2 0 rfl rfl
set_option maxRecDepth 100000 in
theorem w325 : (Jvm.Cond.selects "HalfOrders$Order" ({ cls := "HalfOrders$Order", name := "hasThings", desc := "(II)Z" } : Jvm.MethodName) ({ cls := "HalfOrders$Order", name := "hasThings", desc := "(II)Z" } : Jvm.MethodName)) ∈ mw_tbl := mwt_2 1 rfl rfl
set_option maxRecDepth 100000 in
theorem w326 : (Jvm.Cond.sameMethod "HalfOrders$Order" "HalfOrders$Order" "hasThings" "(II)Z") ∈ mw_tbl := mwt_2 2 rfl rfl
set_option maxRecDepth 100000 in
theorem w327 : (Jvm.Cond.selects "HalfOrders$Beside" ({ cls := "HalfOrders$Order", name := "hasThings", desc := "(II)Z" } : Jvm.MethodName) ({ cls := "HalfOrders$Order", name := "hasThings", desc := "(II)Z" } : Jvm.MethodName)) ∈ mw_tbl := mwt_2 3 rfl rfl
set_option maxRecDepth 100000 in
theorem w328 : (Jvm.Cond.selects "HalfOrders$Held" ({ cls := "HalfOrders$Order", name := "hasThings", desc := "(II)Z" } : Jvm.MethodName) ({ cls := "HalfOrders$Order", name := "hasThings", desc := "(II)Z" } : Jvm.MethodName)) ∈ mw_tbl := mwt_2 4 rfl rfl
set_option maxRecDepth 100000 in
theorem w329 : (Jvm.Cond.selects "HalfOrders$Row" ({ cls := "HalfOrders$Order", name := "hasThings", desc := "(II)Z" } : Jvm.MethodName) ({ cls := "HalfOrders$Order", name := "hasThings", desc := "(II)Z" } : Jvm.MethodName)) ∈ mw_tbl := mwt_2 5 rfl rfl
set_option maxRecDepth 100000 in
theorem w330 : (Jvm.Cond.selects "HalfOrders$Stack" ({ cls := "HalfOrders$Order", name := "hasThings", desc := "(II)Z" } : Jvm.MethodName) ({ cls := "HalfOrders$Order", name := "hasThings", desc := "(II)Z" } : Jvm.MethodName)) ∈ mw_tbl := mwt_2 6 rfl rfl
set_option maxRecDepth 100000 in
theorem w331 : (Jvm.Cond.selects "HalfOrders$Times" ({ cls := "HalfOrders$Order", name := "hasThings", desc := "(II)Z" } : Jvm.MethodName) ({ cls := "HalfOrders$Order", name := "hasThings", desc := "(II)Z" } : Jvm.MethodName)) ∈ mw_tbl := mwt_2 7 rfl rfl
set_option maxRecDepth 100000 in
theorem w332 : (Jvm.Cond.code ({ cls := "HalfOrders$Order", name := "hasThings", desc := "(II)Z" } : Jvm.MethodName) prog_6_method_8_code (3 : Nat) (Option.some Jvm.ClassFile.FieldType.boolean)) ∈ mw_tbl := mwt_2 8 rfl rfl
set_option maxRecDepth 100000 in
theorem w333 : (Jvm.Cond.methodLink "HalfOrders$Order" (53 : Nat) ({ cls := "HalfOrders$Order", name := "hasThing", desc := "(I)Z" } : Jvm.MethodName)) ∈ mw_tbl := mwt_2 9 rfl rfl
set_option maxRecDepth 100000 in
theorem w334 : (Jvm.Cond.instanceMethod ({ cls := "HalfOrders$Order", name := "hasThing", desc := "(I)Z" } : Jvm.MethodName)) ∈ mw_tbl := mwt_2 10 rfl rfl
set_option maxRecDepth 100000 in
theorem w335 : (Jvm.Cond.selects "HalfOrders$Order" ({ cls := "HalfOrders$Order", name := "hasThing", desc := "(I)Z" } : Jvm.MethodName) ({ cls := "HalfOrders$Order", name := "hasThing", desc := "(I)Z" } : Jvm.MethodName)) ∈ mw_tbl := mwt_2 11 rfl rfl
set_option maxRecDepth 100000 in
theorem w336 : (Jvm.Cond.sameMethod "HalfOrders$Order" "HalfOrders$Order" "hasThing" "(I)Z") ∈ mw_tbl := mwt_2 12 rfl rfl
set_option maxRecDepth 100000 in
theorem w337 : (Jvm.Cond.selects "HalfOrders$Beside" ({ cls := "HalfOrders$Order", name := "hasThing", desc := "(I)Z" } : Jvm.MethodName) ({ cls := "HalfOrders$Order", name := "hasThing", desc := "(I)Z" } : Jvm.MethodName)) ∈ mw_tbl := mwt_2 13 rfl rfl
set_option maxRecDepth 100000 in
theorem w338 : (Jvm.Cond.selects "HalfOrders$Held" ({ cls := "HalfOrders$Order", name := "hasThing", desc := "(I)Z" } : Jvm.MethodName) ({ cls := "HalfOrders$Order", name := "hasThing", desc := "(I)Z" } : Jvm.MethodName)) ∈ mw_tbl := mwt_2 14 rfl rfl
set_option maxRecDepth 100000 in
theorem w339 : (Jvm.Cond.selects "HalfOrders$Row" ({ cls := "HalfOrders$Order", name := "hasThing", desc := "(I)Z" } : Jvm.MethodName) ({ cls := "HalfOrders$Order", name := "hasThing", desc := "(I)Z" } : Jvm.MethodName)) ∈ mw_tbl := mwt_2 15 rfl rfl
set_option maxRecDepth 100000 in
theorem w340 : (Jvm.Cond.selects "HalfOrders$Stack" ({ cls := "HalfOrders$Order", name := "hasThing", desc := "(I)Z" } : Jvm.MethodName) ({ cls := "HalfOrders$Order", name := "hasThing", desc := "(I)Z" } : Jvm.MethodName)) ∈ mw_tbl := mwt_2 16 rfl rfl
set_option maxRecDepth 100000 in
theorem w341 : (Jvm.Cond.selects "HalfOrders$Times" ({ cls := "HalfOrders$Order", name := "hasThing", desc := "(I)Z" } : Jvm.MethodName) ({ cls := "HalfOrders$Order", name := "hasThing", desc := "(I)Z" } : Jvm.MethodName)) ∈ mw_tbl := mwt_2 17 rfl rfl
set_option maxRecDepth 100000 in
theorem w342 : (Jvm.Cond.code ({ cls := "HalfOrders$Order", name := "hasThing", desc := "(I)Z" } : Jvm.MethodName) prog_6_method_7_code (2 : Nat) (Option.some Jvm.ClassFile.FieldType.boolean)) ∈ mw_tbl := mwt_2 18 rfl rfl
set_option maxRecDepth 100000 in
theorem w343 : (Jvm.Cond.methodLink "HalfOrders" (94 : Nat) ({ cls := "HalfOrders$Order", name := "kind", desc := "()I" } : Jvm.MethodName)) ∈ mw_tbl := mwt_2 19 rfl rfl
set_option maxRecDepth 100000 in
theorem w344 : (Jvm.Cond.instanceMethod ({ cls := "HalfOrders$Order", name := "kind", desc := "()I" } : Jvm.MethodName)) ∈ mw_tbl := mwt_2 20 rfl rfl
set_option maxRecDepth 100000 in
theorem w345 : (Jvm.Cond.selects "HalfOrders$Order" ({ cls := "HalfOrders$Order", name := "kind", desc := "()I" } : Jvm.MethodName) ({ cls := "HalfOrders$Order", name := "kind", desc := "()I" } : Jvm.MethodName)) ∈ mw_tbl := mwt_2 21 rfl rfl
set_option maxRecDepth 100000 in
theorem w346 : (Jvm.Cond.sameMethod "HalfOrders$Order" "HalfOrders$Order" "kind" "()I") ∈ mw_tbl := mwt_2 22 rfl rfl
set_option maxRecDepth 100000 in
theorem w347 : (Jvm.Cond.selects "HalfOrders$Beside" ({ cls := "HalfOrders$Order", name := "kind", desc := "()I" } : Jvm.MethodName) ({ cls := "HalfOrders$Beside", name := "kind", desc := "()I" } : Jvm.MethodName)) ∈ mw_tbl := mwt_2 23 rfl rfl
set_option maxRecDepth 100000 in
theorem w348 : (Jvm.Cond.instanceMethod ({ cls := "HalfOrders$Beside", name := "kind", desc := "()I" } : Jvm.MethodName)) ∈ mw_tbl := mwt_2 24 rfl rfl
set_option maxRecDepth 100000 in
theorem w349 : (Jvm.Cond.code ({ cls := "HalfOrders$Beside", name := "kind", desc := "()I" } : Jvm.MethodName) prog_2_method_2_code (1 : Nat) (Option.some Jvm.ClassFile.FieldType.int)) ∈ mw_tbl := mwt_2 25 rfl rfl
set_option maxRecDepth 100000 in
theorem w350 : (Jvm.Cond.selects "HalfOrders$Held" ({ cls := "HalfOrders$Order", name := "kind", desc := "()I" } : Jvm.MethodName) ({ cls := "HalfOrders$Held", name := "kind", desc := "()I" } : Jvm.MethodName)) ∈ mw_tbl := mwt_2 26 rfl rfl
set_option maxRecDepth 100000 in
theorem w351 : (Jvm.Cond.instanceMethod ({ cls := "HalfOrders$Held", name := "kind", desc := "()I" } : Jvm.MethodName)) ∈ mw_tbl := mwt_2 27 rfl rfl
set_option maxRecDepth 100000 in
theorem w352 : (Jvm.Cond.code ({ cls := "HalfOrders$Held", name := "kind", desc := "()I" } : Jvm.MethodName) prog_4_method_2_code (1 : Nat) (Option.some Jvm.ClassFile.FieldType.int)) ∈ mw_tbl := mwt_2 28 rfl rfl
set_option maxRecDepth 100000 in
theorem w353 : (Jvm.Cond.selects "HalfOrders$Row" ({ cls := "HalfOrders$Order", name := "kind", desc := "()I" } : Jvm.MethodName) ({ cls := "HalfOrders$Row", name := "kind", desc := "()I" } : Jvm.MethodName)) ∈ mw_tbl := mwt_2 29 rfl rfl
set_option maxRecDepth 100000 in
theorem w354 : (Jvm.Cond.instanceMethod ({ cls := "HalfOrders$Row", name := "kind", desc := "()I" } : Jvm.MethodName)) ∈ mw_tbl := mwt_2 30 rfl rfl
set_option maxRecDepth 100000 in
theorem w355 : (Jvm.Cond.code ({ cls := "HalfOrders$Row", name := "kind", desc := "()I" } : Jvm.MethodName) prog_7_method_2_code (1 : Nat) (Option.some Jvm.ClassFile.FieldType.int)) ∈ mw_tbl := mwt_2 31 rfl rfl
set_option maxRecDepth 100000 in
theorem w356 : (Jvm.Cond.selects "HalfOrders$Stack" ({ cls := "HalfOrders$Order", name := "kind", desc := "()I" } : Jvm.MethodName) ({ cls := "HalfOrders$Stack", name := "kind", desc := "()I" } : Jvm.MethodName)) ∈ mw_tbl := mwt_2 32 rfl rfl
set_option maxRecDepth 100000 in
theorem w357 : (Jvm.Cond.instanceMethod ({ cls := "HalfOrders$Stack", name := "kind", desc := "()I" } : Jvm.MethodName)) ∈ mw_tbl := mwt_2 33 rfl rfl
set_option maxRecDepth 100000 in
theorem w358 : (Jvm.Cond.code ({ cls := "HalfOrders$Stack", name := "kind", desc := "()I" } : Jvm.MethodName) prog_11_method_2_code (1 : Nat) (Option.some Jvm.ClassFile.FieldType.int)) ∈ mw_tbl := mwt_2 34 rfl rfl
set_option maxRecDepth 100000 in
theorem w359 : (Jvm.Cond.selects "HalfOrders$Times" ({ cls := "HalfOrders$Order", name := "kind", desc := "()I" } : Jvm.MethodName) ({ cls := "HalfOrders$Times", name := "kind", desc := "()I" } : Jvm.MethodName)) ∈ mw_tbl := mwt_2 35 rfl rfl
set_option maxRecDepth 100000 in
theorem w360 : (Jvm.Cond.instanceMethod ({ cls := "HalfOrders$Times", name := "kind", desc := "()I" } : Jvm.MethodName)) ∈ mw_tbl := mwt_2 36 rfl rfl
set_option maxRecDepth 100000 in
theorem w361 : (Jvm.Cond.code ({ cls := "HalfOrders$Times", name := "kind", desc := "()I" } : Jvm.MethodName) prog_12_method_2_code (1 : Nat) (Option.some Jvm.ClassFile.FieldType.int)) ∈ mw_tbl := mwt_2 37 rfl rfl
set_option maxRecDepth 100000 in
theorem w362 : (Jvm.Cond.code ({ cls := "HalfOrders$Order", name := "kind", desc := "()I" } : Jvm.MethodName) prog_6_method_2_code (1 : Nat) (Option.some Jvm.ClassFile.FieldType.int)) ∈ mw_tbl := mwt_2 38 rfl rfl
set_option maxRecDepth 100000 in
theorem w363 : (Jvm.Cond.methodLink "HalfOrders" (98 : Nat) ({ cls := "HalfOrders$Order", name := "isBelow", desc := "(II)Z" } : Jvm.MethodName)) ∈ mw_tbl := mwt_2 39 rfl rfl
set_option maxRecDepth 100000 in
theorem w364 : (Jvm.Cond.instanceMethod ({ cls := "HalfOrders$Order", name := "isBelow", desc := "(II)Z" } : Jvm.MethodName)) ∈ mw_tbl := mwt_2 40 rfl rfl
set_option maxRecDepth 100000 in
theorem w365 : (Jvm.Cond.selects "HalfOrders$Order" ({ cls := "HalfOrders$Order", name := "isBelow", desc := "(II)Z" } : Jvm.MethodName) ({ cls := "HalfOrders$Order", name := "isBelow", desc := "(II)Z" } : Jvm.MethodName)) ∈ mw_tbl := mwt_2 41 rfl rfl
set_option maxRecDepth 100000 in
theorem w366 : (Jvm.Cond.sameMethod "HalfOrders$Order" "HalfOrders$Order" "isBelow" "(II)Z") ∈ mw_tbl := mwt_2 42 rfl rfl
set_option maxRecDepth 100000 in
theorem w367 : (Jvm.Cond.selects "HalfOrders$Beside" ({ cls := "HalfOrders$Order", name := "isBelow", desc := "(II)Z" } : Jvm.MethodName) ({ cls := "HalfOrders$Order", name := "isBelow", desc := "(II)Z" } : Jvm.MethodName)) ∈ mw_tbl := mwt_2 43 rfl rfl
set_option maxRecDepth 100000 in
theorem w368 : (Jvm.Cond.selects "HalfOrders$Held" ({ cls := "HalfOrders$Order", name := "isBelow", desc := "(II)Z" } : Jvm.MethodName) ({ cls := "HalfOrders$Order", name := "isBelow", desc := "(II)Z" } : Jvm.MethodName)) ∈ mw_tbl := mwt_2 44 rfl rfl
set_option maxRecDepth 100000 in
theorem w369 : (Jvm.Cond.selects "HalfOrders$Row" ({ cls := "HalfOrders$Order", name := "isBelow", desc := "(II)Z" } : Jvm.MethodName) ({ cls := "HalfOrders$Order", name := "isBelow", desc := "(II)Z" } : Jvm.MethodName)) ∈ mw_tbl := mwt_2 45 rfl rfl
set_option maxRecDepth 100000 in
theorem w370 : (Jvm.Cond.selects "HalfOrders$Stack" ({ cls := "HalfOrders$Order", name := "isBelow", desc := "(II)Z" } : Jvm.MethodName) ({ cls := "HalfOrders$Order", name := "isBelow", desc := "(II)Z" } : Jvm.MethodName)) ∈ mw_tbl := mwt_2 46 rfl rfl
set_option maxRecDepth 100000 in
theorem w371 : (Jvm.Cond.selects "HalfOrders$Times" ({ cls := "HalfOrders$Order", name := "isBelow", desc := "(II)Z" } : Jvm.MethodName) ({ cls := "HalfOrders$Order", name := "isBelow", desc := "(II)Z" } : Jvm.MethodName)) ∈ mw_tbl := mwt_2 47 rfl rfl
set_option maxRecDepth 100000 in
theorem w372 : (Jvm.Cond.code ({ cls := "HalfOrders$Order", name := "isBelow", desc := "(II)Z" } : Jvm.MethodName) prog_6_method_10_code (3 : Nat) (Option.some Jvm.ClassFile.FieldType.boolean)) ∈ mw_tbl := mwt_2 48 rfl rfl
set_option maxRecDepth 100000 in
theorem w373 : (Jvm.Cond.methodLink "HalfOrders$Order" (57 : Nat) ({ cls := "HalfOrders$Order", name := "hasThings", desc := "(II)Z" } : Jvm.MethodName)) ∈ mw_tbl := mwt_2 49 rfl rfl
set_option maxRecDepth 100000 in
theorem w374 : (Jvm.Cond.methodLink "HalfOrders" (101 : Nat) ({ cls := "HalfOrders$Order", name := "findPath", desc := "(IILHalfOrders$Line;)V" } : Jvm.MethodName)) ∈ mw_tbl := mwt_2 50 rfl rfl
set_option maxRecDepth 100000 in
theorem w375 : (Jvm.Cond.instanceMethod ({ cls := "HalfOrders$Order", name := "findPath", desc := "(IILHalfOrders$Line;)V" } : Jvm.MethodName)) ∈ mw_tbl := mwt_2 51 rfl rfl
set_option maxRecDepth 100000 in
theorem w376 : (Jvm.Cond.selects "HalfOrders$Order" ({ cls := "HalfOrders$Order", name := "findPath", desc := "(IILHalfOrders$Line;)V" } : Jvm.MethodName) ({ cls := "HalfOrders$Order", name := "findPath", desc := "(IILHalfOrders$Line;)V" } : Jvm.MethodName)) ∈ mw_tbl := mwt_2 52 rfl rfl
set_option maxRecDepth 100000 in
theorem w377 : (Jvm.Cond.sameMethod "HalfOrders$Order" "HalfOrders$Order" "findPath" "(IILHalfOrders$Line;)V") ∈ mw_tbl := mwt_2 53 rfl rfl
set_option maxRecDepth 100000 in
theorem w378 : (Jvm.Cond.selects "HalfOrders$Beside" ({ cls := "HalfOrders$Order", name := "findPath", desc := "(IILHalfOrders$Line;)V" } : Jvm.MethodName) ({ cls := "HalfOrders$Order", name := "findPath", desc := "(IILHalfOrders$Line;)V" } : Jvm.MethodName)) ∈ mw_tbl := mwt_2 54 rfl rfl
set_option maxRecDepth 100000 in
theorem w379 : (Jvm.Cond.selects "HalfOrders$Held" ({ cls := "HalfOrders$Order", name := "findPath", desc := "(IILHalfOrders$Line;)V" } : Jvm.MethodName) ({ cls := "HalfOrders$Order", name := "findPath", desc := "(IILHalfOrders$Line;)V" } : Jvm.MethodName)) ∈ mw_tbl := mwt_2 55 rfl rfl
set_option maxRecDepth 100000 in
theorem w380 : (Jvm.Cond.selects "HalfOrders$Row" ({ cls := "HalfOrders$Order", name := "findPath", desc := "(IILHalfOrders$Line;)V" } : Jvm.MethodName) ({ cls := "HalfOrders$Order", name := "findPath", desc := "(IILHalfOrders$Line;)V" } : Jvm.MethodName)) ∈ mw_tbl := mwt_2 56 rfl rfl
set_option maxRecDepth 100000 in
theorem w381 : (Jvm.Cond.selects "HalfOrders$Stack" ({ cls := "HalfOrders$Order", name := "findPath", desc := "(IILHalfOrders$Line;)V" } : Jvm.MethodName) ({ cls := "HalfOrders$Order", name := "findPath", desc := "(IILHalfOrders$Line;)V" } : Jvm.MethodName)) ∈ mw_tbl := mwt_2 57 rfl rfl
set_option maxRecDepth 100000 in
theorem w382 : (Jvm.Cond.selects "HalfOrders$Times" ({ cls := "HalfOrders$Order", name := "findPath", desc := "(IILHalfOrders$Line;)V" } : Jvm.MethodName) ({ cls := "HalfOrders$Order", name := "findPath", desc := "(IILHalfOrders$Line;)V" } : Jvm.MethodName)) ∈ mw_tbl := mwt_2 58 rfl rfl
set_option maxRecDepth 100000 in
theorem w383 : (Jvm.Cond.code ({ cls := "HalfOrders$Order", name := "findPath", desc := "(IILHalfOrders$Line;)V" } : Jvm.MethodName) prog_6_method_23_code (7 : Nat) (Option.none : Option Jvm.ClassFile.FieldType)) ∈ mw_tbl := mwt_2 59 rfl rfl
set_option maxRecDepth 100000 in
theorem w384 : (Jvm.Cond.methodLink "HalfOrders$Order" (90 : Nat) ({ cls := "HalfOrders$Line", name := "empty", desc := "()V" } : Jvm.MethodName)) ∈ mw_tbl := mwt_2 60 rfl rfl
set_option maxRecDepth 100000 in
theorem w385 : (Jvm.Cond.instanceMethod ({ cls := "HalfOrders$Line", name := "empty", desc := "()V" } : Jvm.MethodName)) ∈ mw_tbl := mwt_2 61 rfl rfl
set_option maxRecDepth 100000 in
theorem w386 : (Jvm.Cond.selects "HalfOrders$Line" ({ cls := "HalfOrders$Line", name := "empty", desc := "()V" } : Jvm.MethodName) ({ cls := "HalfOrders$Line", name := "empty", desc := "()V" } : Jvm.MethodName)) ∈ mw_tbl := mwt_2 62 rfl rfl
set_option maxRecDepth 100000 in
theorem w387 : (Jvm.Cond.code ({ cls := "HalfOrders$Line", name := "empty", desc := "()V" } : Jvm.MethodName) prog_5_method_2_code (1 : Nat) (Option.none : Option Jvm.ClassFile.FieldType)) ∈ mw_tbl := mwt_2 63 rfl rfl
set_option maxRecDepth 100000 in
theorem w388 : (Jvm.Cond.methodLink "HalfOrders$Order" (93 : Nat) ({ cls := "HalfOrders$Order", name := "stepsTo", desc := "(II)I" } : Jvm.MethodName)) ∈ mw_tbl := mwt_2 64 rfl rfl
set_option maxRecDepth 100000 in
theorem w390 : (Jvm.Cond.instanceMethod ({ cls := "HalfOrders$Order", name := "stepsTo", desc := "(II)I" } : Jvm.MethodName)) ∈ mw_tbl := mwt_2 66 rfl rfl
set_option maxRecDepth 100000 in
theorem w391 : (Jvm.Cond.code ({ cls := "HalfOrders$Order", name := "stepsTo", desc := "(II)I" } : Jvm.MethodName) prog_6_method_25_code (5 : Nat) (Option.some Jvm.ClassFile.FieldType.int)) ∈ mw_tbl := mwt_2 67 rfl rfl
set_option maxRecDepth 100000 in
theorem w392 : (Jvm.Cond.methodLink "HalfOrders$Order" (100 : Nat) ({ cls := "HalfOrders$Order", name := "allNextOver", desc := "(I)I" } : Jvm.MethodName)) ∈ mw_tbl := mwt_2 68 rfl rfl
set_option maxRecDepth 100000 in
theorem w394 : (Jvm.Cond.instanceMethod ({ cls := "HalfOrders$Order", name := "allNextOver", desc := "(I)I" } : Jvm.MethodName)) ∈ mw_tbl := mwt_2 70 rfl rfl
set_option maxRecDepth 100000 in
theorem w395 : (Jvm.Cond.code ({ cls := "HalfOrders$Order", name := "allNextOver", desc := "(I)I" } : Jvm.MethodName) prog_6_method_26_code (5 : Nat) (Option.some Jvm.ClassFile.FieldType.int)) ∈ mw_tbl := mwt_2 71 rfl rfl
set_option maxRecDepth 100000 in
theorem w396 : (Jvm.Cond.methodLink "HalfOrders$Order" (68 : Nat) ({ cls := "HalfOrders$Order", name := "isNext", desc := "(II)Z" } : Jvm.MethodName)) ∈ mw_tbl := mwt_2 72 rfl rfl
set_option maxRecDepth 100000 in
theorem w397 : (Jvm.Cond.instanceMethod ({ cls := "HalfOrders$Order", name := "isNext", desc := "(II)Z" } : Jvm.MethodName)) ∈ mw_tbl := mwt_2 73 rfl rfl
set_option maxRecDepth 100000 in
theorem w398 : (Jvm.Cond.selects "HalfOrders$Order" ({ cls := "HalfOrders$Order", name := "isNext", desc := "(II)Z" } : Jvm.MethodName) ({ cls := "HalfOrders$Order", name := "isNext", desc := "(II)Z" } : Jvm.MethodName)) ∈ mw_tbl := mwt_2 74 rfl rfl
set_option maxRecDepth 100000 in
theorem w399 : (Jvm.Cond.sameMethod "HalfOrders$Order" "HalfOrders$Order" "isNext" "(II)Z") ∈ mw_tbl := mwt_2 75 rfl rfl
set_option maxRecDepth 100000 in
theorem w400 : (Jvm.Cond.selects "HalfOrders$Beside" ({ cls := "HalfOrders$Order", name := "isNext", desc := "(II)Z" } : Jvm.MethodName) ({ cls := "HalfOrders$Order", name := "isNext", desc := "(II)Z" } : Jvm.MethodName)) ∈ mw_tbl := mwt_2 76 rfl rfl
set_option maxRecDepth 100000 in
theorem w401 : (Jvm.Cond.selects "HalfOrders$Held" ({ cls := "HalfOrders$Order", name := "isNext", desc := "(II)Z" } : Jvm.MethodName) ({ cls := "HalfOrders$Order", name := "isNext", desc := "(II)Z" } : Jvm.MethodName)) ∈ mw_tbl := mwt_2 77 rfl rfl
set_option maxRecDepth 100000 in
theorem w402 : (Jvm.Cond.selects "HalfOrders$Row" ({ cls := "HalfOrders$Order", name := "isNext", desc := "(II)Z" } : Jvm.MethodName) ({ cls := "HalfOrders$Order", name := "isNext", desc := "(II)Z" } : Jvm.MethodName)) ∈ mw_tbl := mwt_2 78 rfl rfl
set_option maxRecDepth 100000 in
theorem w403 : (Jvm.Cond.selects "HalfOrders$Stack" ({ cls := "HalfOrders$Order", name := "isNext", desc := "(II)Z" } : Jvm.MethodName) ({ cls := "HalfOrders$Order", name := "isNext", desc := "(II)Z" } : Jvm.MethodName)) ∈ mw_tbl := mwt_2 79 rfl rfl
set_option maxRecDepth 100000 in
theorem w404 : (Jvm.Cond.selects "HalfOrders$Times" ({ cls := "HalfOrders$Order", name := "isNext", desc := "(II)Z" } : Jvm.MethodName) ({ cls := "HalfOrders$Order", name := "isNext", desc := "(II)Z" } : Jvm.MethodName)) ∈ mw_tbl := mwt_2 80 rfl rfl
set_option maxRecDepth 100000 in
theorem w405 : (Jvm.Cond.code ({ cls := "HalfOrders$Order", name := "isNext", desc := "(II)Z" } : Jvm.MethodName) prog_6_method_11_code (3 : Nat) (Option.some Jvm.ClassFile.FieldType.boolean)) ∈ mw_tbl := mwt_2 81 rfl rfl
set_option maxRecDepth 100000 in
theorem w406 : (Jvm.Cond.methodLink "HalfOrders$Order" (61 : Nat) ({ cls := "HalfOrders$Order", name := "isBelow", desc := "(II)Z" } : Jvm.MethodName)) ∈ mw_tbl := mwt_2 82 rfl rfl
set_option maxRecDepth 100000 in
theorem w407 : (Jvm.Cond.methodLink "HalfOrders$Order" (37 : Nat) ({ cls := "HalfOrders$Line", name := "add", desc := "(I)V" } : Jvm.MethodName)) ∈ mw_tbl := mwt_2 83 rfl rfl
set_option maxRecDepth 100000 in
theorem w408 : (Jvm.Cond.instanceMethod ({ cls := "HalfOrders$Line", name := "add", desc := "(I)V" } : Jvm.MethodName)) ∈ mw_tbl := mwt_2 84 rfl rfl
set_option maxRecDepth 100000 in
theorem w409 : (Jvm.Cond.selects "HalfOrders$Line" ({ cls := "HalfOrders$Line", name := "add", desc := "(I)V" } : Jvm.MethodName) ({ cls := "HalfOrders$Line", name := "add", desc := "(I)V" } : Jvm.MethodName)) ∈ mw_tbl := mwt_2 85 rfl rfl
set_option maxRecDepth 100000 in
theorem w410 : (Jvm.Cond.code ({ cls := "HalfOrders$Line", name := "add", desc := "(I)V" } : Jvm.MethodName) prog_5_method_3_code (2 : Nat) (Option.none : Option Jvm.ClassFile.FieldType)) ∈ mw_tbl := mwt_2 86 rfl rfl
set_option maxRecDepth 100000 in
theorem w411 : (Jvm.Cond.methodLink "HalfOrders$Order" (96 : Nat) ({ cls := "HalfOrders$Order", name := "firstStep", desc := "(III)I" } : Jvm.MethodName)) ∈ mw_tbl := mwt_2 87 rfl rfl
set_option maxRecDepth 100000 in
theorem w413 : (Jvm.Cond.instanceMethod ({ cls := "HalfOrders$Order", name := "firstStep", desc := "(III)I" } : Jvm.MethodName)) ∈ mw_tbl := mwt_2 89 rfl rfl
set_option maxRecDepth 100000 in
theorem w414 : (Jvm.Cond.code ({ cls := "HalfOrders$Order", name := "firstStep", desc := "(III)I" } : Jvm.MethodName) prog_6_method_24_code (5 : Nat) (Option.some Jvm.ClassFile.FieldType.int)) ∈ mw_tbl := mwt_2 90 rfl rfl
set_option maxRecDepth 100000 in
theorem w415 : (Jvm.Cond.methodLink "HalfOrders" (105 : Nat) ({ cls := "HalfOrders$Line", name := "empty", desc := "()V" } : Jvm.MethodName)) ∈ mw_tbl := mwt_2 91 rfl rfl
set_option maxRecDepth 100000 in
theorem w416 : (Jvm.Cond.methodLink "HalfOrders" (108 : Nat) ({ cls := "HalfOrders$Order", name := "tellPair", desc := "(II)Z" } : Jvm.MethodName)) ∈ mw_tbl := mwt_2 92 rfl rfl
set_option maxRecDepth 100000 in
theorem w417 : (Jvm.Cond.instanceMethod ({ cls := "HalfOrders$Order", name := "tellPair", desc := "(II)Z" } : Jvm.MethodName)) ∈ mw_tbl := mwt_2 93 rfl rfl
set_option maxRecDepth 100000 in
theorem w418 : (Jvm.Cond.selects "HalfOrders$Order" ({ cls := "HalfOrders$Order", name := "tellPair", desc := "(II)Z" } : Jvm.MethodName) ({ cls := "HalfOrders$Order", name := "tellPair", desc := "(II)Z" } : Jvm.MethodName)) ∈ mw_tbl := mwt_2 94 rfl rfl
set_option maxRecDepth 100000 in
theorem w419 : (Jvm.Cond.sameMethod "HalfOrders$Order" "HalfOrders$Order" "tellPair" "(II)Z") ∈ mw_tbl := mwt_2 95 rfl rfl
set_option maxRecDepth 100000 in
theorem w420 : (Jvm.Cond.selects "HalfOrders$Beside" ({ cls := "HalfOrders$Order", name := "tellPair", desc := "(II)Z" } : Jvm.MethodName) ({ cls := "HalfOrders$Order", name := "tellPair", desc := "(II)Z" } : Jvm.MethodName)) ∈ mw_tbl := mwt_2 96 rfl rfl
set_option maxRecDepth 100000 in
theorem w421 : (Jvm.Cond.selects "HalfOrders$Held" ({ cls := "HalfOrders$Order", name := "tellPair", desc := "(II)Z" } : Jvm.MethodName) ({ cls := "HalfOrders$Order", name := "tellPair", desc := "(II)Z" } : Jvm.MethodName)) ∈ mw_tbl := mwt_2 97 rfl rfl
set_option maxRecDepth 100000 in
theorem w422 : (Jvm.Cond.selects "HalfOrders$Row" ({ cls := "HalfOrders$Order", name := "tellPair", desc := "(II)Z" } : Jvm.MethodName) ({ cls := "HalfOrders$Order", name := "tellPair", desc := "(II)Z" } : Jvm.MethodName)) ∈ mw_tbl := mwt_2 98 rfl rfl
set_option maxRecDepth 100000 in
theorem w423 : (Jvm.Cond.selects "HalfOrders$Stack" ({ cls := "HalfOrders$Order", name := "tellPair", desc := "(II)Z" } : Jvm.MethodName) ({ cls := "HalfOrders$Order", name := "tellPair", desc := "(II)Z" } : Jvm.MethodName)) ∈ mw_tbl := mwt_2 99 rfl rfl
set_option maxRecDepth 100000 in
theorem w424 : (Jvm.Cond.selects "HalfOrders$Times" ({ cls := "HalfOrders$Order", name := "tellPair", desc := "(II)Z" } : Jvm.MethodName) ({ cls := "HalfOrders$Order", name := "tellPair", desc := "(II)Z" } : Jvm.MethodName)) ∈ mw_tbl := mwt_2 100 rfl rfl
set_option maxRecDepth 100000 in
theorem w425 : (Jvm.Cond.code ({ cls := "HalfOrders$Order", name := "tellPair", desc := "(II)Z" } : Jvm.MethodName) prog_6_method_15_code (7 : Nat) (Option.some Jvm.ClassFile.FieldType.boolean)) ∈ mw_tbl := mwt_2 101 rfl rfl
set_option maxRecDepth 100000 in
theorem w426 : (Jvm.Cond.methodLink "HalfOrders$Order" (64 : Nat) ({ cls := "HalfOrders$Order", name := "mark", desc := "(II)V" } : Jvm.MethodName)) ∈ mw_tbl := mwt_2 102 rfl rfl
set_option maxRecDepth 100000 in
theorem w427 : (Jvm.Cond.instanceMethod ({ cls := "HalfOrders$Order", name := "mark", desc := "(II)V" } : Jvm.MethodName)) ∈ mw_tbl := mwt_2 103 rfl rfl
set_option maxRecDepth 100000 in
theorem w428 : (Jvm.Cond.selects "HalfOrders$Order" ({ cls := "HalfOrders$Order", name := "mark", desc := "(II)V" } : Jvm.MethodName) ({ cls := "HalfOrders$Order", name := "mark", desc := "(II)V" } : Jvm.MethodName)) ∈ mw_tbl := mwt_2 104 rfl rfl
set_option maxRecDepth 100000 in
theorem w429 : (Jvm.Cond.sameMethod "HalfOrders$Order" "HalfOrders$Order" "mark" "(II)V") ∈ mw_tbl := mwt_2 105 rfl rfl
set_option maxRecDepth 100000 in
theorem w430 : (Jvm.Cond.selects "HalfOrders$Beside" ({ cls := "HalfOrders$Order", name := "mark", desc := "(II)V" } : Jvm.MethodName) ({ cls := "HalfOrders$Order", name := "mark", desc := "(II)V" } : Jvm.MethodName)) ∈ mw_tbl := mwt_2 106 rfl rfl
set_option maxRecDepth 100000 in
theorem w431 : (Jvm.Cond.selects "HalfOrders$Held" ({ cls := "HalfOrders$Order", name := "mark", desc := "(II)V" } : Jvm.MethodName) ({ cls := "HalfOrders$Order", name := "mark", desc := "(II)V" } : Jvm.MethodName)) ∈ mw_tbl := mwt_2 107 rfl rfl
set_option maxRecDepth 100000 in
theorem w432 : (Jvm.Cond.selects "HalfOrders$Row" ({ cls := "HalfOrders$Order", name := "mark", desc := "(II)V" } : Jvm.MethodName) ({ cls := "HalfOrders$Order", name := "mark", desc := "(II)V" } : Jvm.MethodName)) ∈ mw_tbl := mwt_2 108 rfl rfl
set_option maxRecDepth 100000 in
theorem w433 : (Jvm.Cond.selects "HalfOrders$Stack" ({ cls := "HalfOrders$Order", name := "mark", desc := "(II)V" } : Jvm.MethodName) ({ cls := "HalfOrders$Order", name := "mark", desc := "(II)V" } : Jvm.MethodName)) ∈ mw_tbl := mwt_2 109 rfl rfl
set_option maxRecDepth 100000 in
theorem w434 : (Jvm.Cond.selects "HalfOrders$Times" ({ cls := "HalfOrders$Order", name := "mark", desc := "(II)V" } : Jvm.MethodName) ({ cls := "HalfOrders$Order", name := "mark", desc := "(II)V" } : Jvm.MethodName)) ∈ mw_tbl := mwt_2 110 rfl rfl
set_option maxRecDepth 100000 in
theorem w435 : (Jvm.Cond.code ({ cls := "HalfOrders$Order", name := "mark", desc := "(II)V" } : Jvm.MethodName) prog_6_method_13_code (3 : Nat) (Option.none : Option Jvm.ClassFile.FieldType)) ∈ mw_tbl := mwt_2 111 rfl rfl
set_option maxRecDepth 100000 in
theorem w440 : (Jvm.Cond.methodLink "HalfOrders" (114 : Nat) ({ cls := "HalfOrders$Line", name := "at", desc := "(I)I" } : Jvm.MethodName)) ∈ mw_tbl := mwt_2 116 rfl rfl
set_option maxRecDepth 100000 in
theorem w441 : (Jvm.Cond.instanceMethod ({ cls := "HalfOrders$Line", name := "at", desc := "(I)I" } : Jvm.MethodName)) ∈ mw_tbl := mwt_2 117 rfl rfl
set_option maxRecDepth 100000 in
theorem w442 : (Jvm.Cond.selects "HalfOrders$Line" ({ cls := "HalfOrders$Line", name := "at", desc := "(I)I" } : Jvm.MethodName) ({ cls := "HalfOrders$Line", name := "at", desc := "(I)I" } : Jvm.MethodName)) ∈ mw_tbl := mwt_2 118 rfl rfl
set_option maxRecDepth 100000 in
theorem w443 : (Jvm.Cond.code ({ cls := "HalfOrders$Line", name := "at", desc := "(I)I" } : Jvm.MethodName) prog_5_method_5_code (2 : Nat) (Option.some Jvm.ClassFile.FieldType.int)) ∈ mw_tbl := mwt_2 119 rfl rfl
set_option maxRecDepth 100000 in
theorem w448 : (Jvm.Cond.classLink "HalfOrders" (120 : Nat) "HalfOrders$Stack") ∈ mw_tbl := mwt_2 124 rfl rfl
set_option maxRecDepth 100000 in
theorem w449 : (Jvm.Cond.instantiable "HalfOrders$Stack" (5 : Nat)) ∈ mw_tbl := mwt_2 125 rfl rfl
set_option maxRecDepth 100000 in
theorem w450 : (Jvm.Cond.methodLink "HalfOrders" (122 : Nat) ({ cls := "HalfOrders$Stack", name := "<init>", desc := "(II)V" } : Jvm.MethodName)) ∈ mw_tbl := mwt_2 126 rfl rfl
set_option maxRecDepth 100000 in
theorem w451 : (Jvm.Cond.instanceMethod ({ cls := "HalfOrders$Stack", name := "<init>", desc := "(II)V" } : Jvm.MethodName)) ∈ mw_tbl := mwt_2 127 rfl rfl
set_option maxRecDepth 100000 in
theorem w452 : (Jvm.Cond.code ({ cls := "HalfOrders$Stack", name := "<init>", desc := "(II)V" } : Jvm.MethodName) prog_11_method_1_code (3 : Nat) (Option.none : Option Jvm.ClassFile.FieldType)) ∈ mw_tbl := mwt_2 128 rfl rfl
set_option maxRecDepth 100000 in
theorem w453 : (Jvm.Cond.methodLink "HalfOrders$Stack" (1 : Nat) ({ cls := "HalfOrders$Order", name := "<init>", desc := "(II)V" } : Jvm.MethodName)) ∈ mw_tbl := mwt_2 129 rfl rfl
set_option maxRecDepth 100000 in
theorem w459 : (Jvm.Cond.superclass "HalfOrders$Stack" "HalfOrders$Order") ∈ mw_tbl := mwt_2 135 rfl rfl
set_option maxRecDepth 100000 in
theorem w460 : (Jvm.Cond.methodLink "HalfOrders" (123 : Nat) ({ cls := "HalfOrders$Order", name := "copyPairs", desc := "(LHalfOrders$Order;I)V" } : Jvm.MethodName)) ∈ mw_tbl := mwt_2 136 rfl rfl
set_option maxRecDepth 100000 in
theorem w461 : (Jvm.Cond.instanceMethod ({ cls := "HalfOrders$Order", name := "copyPairs", desc := "(LHalfOrders$Order;I)V" } : Jvm.MethodName)) ∈ mw_tbl := mwt_2 137 rfl rfl
set_option maxRecDepth 100000 in
theorem w462 : (Jvm.Cond.selects "HalfOrders$Order" ({ cls := "HalfOrders$Order", name := "copyPairs", desc := "(LHalfOrders$Order;I)V" } : Jvm.MethodName) ({ cls := "HalfOrders$Order", name := "copyPairs", desc := "(LHalfOrders$Order;I)V" } : Jvm.MethodName)) ∈ mw_tbl := mwt_2 138 rfl rfl
set_option maxRecDepth 100000 in
theorem w463 : (Jvm.Cond.sameMethod "HalfOrders$Order" "HalfOrders$Order" "copyPairs" "(LHalfOrders$Order;I)V") ∈ mw_tbl := mwt_2 139 rfl rfl
set_option maxRecDepth 100000 in
theorem w464 : (Jvm.Cond.selects "HalfOrders$Beside" ({ cls := "HalfOrders$Order", name := "copyPairs", desc := "(LHalfOrders$Order;I)V" } : Jvm.MethodName) ({ cls := "HalfOrders$Order", name := "copyPairs", desc := "(LHalfOrders$Order;I)V" } : Jvm.MethodName)) ∈ mw_tbl := mwt_2 140 rfl rfl
set_option maxRecDepth 100000 in
theorem w465 : (Jvm.Cond.selects "HalfOrders$Held" ({ cls := "HalfOrders$Order", name := "copyPairs", desc := "(LHalfOrders$Order;I)V" } : Jvm.MethodName) ({ cls := "HalfOrders$Order", name := "copyPairs", desc := "(LHalfOrders$Order;I)V" } : Jvm.MethodName)) ∈ mw_tbl := mwt_2 141 rfl rfl
set_option maxRecDepth 100000 in
theorem w466 : (Jvm.Cond.selects "HalfOrders$Row" ({ cls := "HalfOrders$Order", name := "copyPairs", desc := "(LHalfOrders$Order;I)V" } : Jvm.MethodName) ({ cls := "HalfOrders$Order", name := "copyPairs", desc := "(LHalfOrders$Order;I)V" } : Jvm.MethodName)) ∈ mw_tbl := mwt_2 142 rfl rfl
set_option maxRecDepth 100000 in
theorem w467 : (Jvm.Cond.selects "HalfOrders$Stack" ({ cls := "HalfOrders$Order", name := "copyPairs", desc := "(LHalfOrders$Order;I)V" } : Jvm.MethodName) ({ cls := "HalfOrders$Order", name := "copyPairs", desc := "(LHalfOrders$Order;I)V" } : Jvm.MethodName)) ∈ mw_tbl := mwt_2 143 rfl rfl
set_option maxRecDepth 100000 in
theorem w468 : (Jvm.Cond.selects "HalfOrders$Times" ({ cls := "HalfOrders$Order", name := "copyPairs", desc := "(LHalfOrders$Order;I)V" } : Jvm.MethodName) ({ cls := "HalfOrders$Order", name := "copyPairs", desc := "(LHalfOrders$Order;I)V" } : Jvm.MethodName)) ∈ mw_tbl := mwt_2 144 rfl rfl
set_option maxRecDepth 100000 in
theorem w469 : (Jvm.Cond.code ({ cls := "HalfOrders$Order", name := "copyPairs", desc := "(LHalfOrders$Order;I)V" } : Jvm.MethodName) prog_6_method_14_code (5 : Nat) (Option.none : Option Jvm.ClassFile.FieldType)) ∈ mw_tbl := mwt_2 145 rfl rfl
set_option maxRecDepth 100000 in
theorem w470 : (Jvm.Cond.methodLink "HalfOrders" (127 : Nat) ({ cls := "HalfOrders$Order", name := "mark", desc := "(II)V" } : Jvm.MethodName)) ∈ mw_tbl := mwt_2 146 rfl rfl
set_option maxRecDepth 100000 in
theorem w475 : (Jvm.Cond.classLink "HalfOrders" (130 : Nat) "HalfOrders$Beside") ∈ mw_tbl := mwt_2 151 rfl rfl
set_option maxRecDepth 100000 in
theorem w476 : (Jvm.Cond.instantiable "HalfOrders$Beside" (5 : Nat)) ∈ mw_tbl := mwt_2 152 rfl rfl
set_option maxRecDepth 100000 in
theorem w477 : (Jvm.Cond.methodLink "HalfOrders" (132 : Nat) ({ cls := "HalfOrders$Beside", name := "<init>", desc := "(II)V" } : Jvm.MethodName)) ∈ mw_tbl := mwt_2 153 rfl rfl
set_option maxRecDepth 100000 in
theorem w478 : (Jvm.Cond.instanceMethod ({ cls := "HalfOrders$Beside", name := "<init>", desc := "(II)V" } : Jvm.MethodName)) ∈ mw_tbl := mwt_2 154 rfl rfl
set_option maxRecDepth 100000 in
theorem w479 : (Jvm.Cond.code ({ cls := "HalfOrders$Beside", name := "<init>", desc := "(II)V" } : Jvm.MethodName) prog_2_method_1_code (3 : Nat) (Option.none : Option Jvm.ClassFile.FieldType)) ∈ mw_tbl := mwt_2 155 rfl rfl
set_option maxRecDepth 100000 in
theorem w480 : (Jvm.Cond.methodLink "HalfOrders$Beside" (1 : Nat) ({ cls := "HalfOrders$Stack", name := "<init>", desc := "(II)V" } : Jvm.MethodName)) ∈ mw_tbl := mwt_2 156 rfl rfl
set_option maxRecDepth 100000 in
theorem w486 : (Jvm.Cond.superclass "HalfOrders$Beside" "HalfOrders$Stack") ∈ mw_tbl := mwt_2 162 rfl rfl
set_option maxRecDepth 100000 in
theorem w491 : (Jvm.Cond.classLink "HalfOrders" (133 : Nat) "HalfOrders$Times") ∈ mw_tbl := mwt_2 167 rfl rfl
set_option maxRecDepth 100000 in
theorem w492 : (Jvm.Cond.instantiable "HalfOrders$Times" (5 : Nat)) ∈ mw_tbl := mwt_2 168 rfl rfl
set_option maxRecDepth 100000 in
theorem w493 : (Jvm.Cond.methodLink "HalfOrders" (135 : Nat) ({ cls := "HalfOrders$Times", name := "<init>", desc := "(II)V" } : Jvm.MethodName)) ∈ mw_tbl := mwt_2 169 rfl rfl
set_option maxRecDepth 100000 in
theorem w494 : (Jvm.Cond.instanceMethod ({ cls := "HalfOrders$Times", name := "<init>", desc := "(II)V" } : Jvm.MethodName)) ∈ mw_tbl := mwt_2 170 rfl rfl
set_option maxRecDepth 100000 in
theorem w495 : (Jvm.Cond.code ({ cls := "HalfOrders$Times", name := "<init>", desc := "(II)V" } : Jvm.MethodName) prog_12_method_1_code (3 : Nat) (Option.none : Option Jvm.ClassFile.FieldType)) ∈ mw_tbl := mwt_2 171 rfl rfl
set_option maxRecDepth 100000 in
theorem w496 : (Jvm.Cond.methodLink "HalfOrders$Times" (1 : Nat) ({ cls := "HalfOrders$Beside", name := "<init>", desc := "(II)V" } : Jvm.MethodName)) ∈ mw_tbl := mwt_2 172 rfl rfl
set_option maxRecDepth 100000 in
theorem w502 : (Jvm.Cond.superclass "HalfOrders$Times" "HalfOrders$Beside") ∈ mw_tbl := mwt_2 178 rfl rfl
set_option maxRecDepth 100000 in
theorem w503 : (Jvm.Cond.methodLink "HalfOrders" (136 : Nat) ({ cls := "HalfOrders", name := "markAllOver", desc := "(LHalfOrders$Order;LHalfOrders$Order;LHalfOrders$Order;II)V" } : Jvm.MethodName)) ∈ mw_tbl := mwt_2 179 rfl rfl
set_option maxRecDepth 100000 in
theorem w504 : (Jvm.Cond.static ({ cls := "HalfOrders", name := "markAllOver", desc := "(LHalfOrders$Order;LHalfOrders$Order;LHalfOrders$Order;II)V" } : Jvm.MethodName)) ∈ mw_tbl := mwt_2 180 rfl rfl
set_option maxRecDepth 100000 in
theorem w505 : (Jvm.Cond.code ({ cls := "HalfOrders", name := "markAllOver", desc := "(LHalfOrders$Order;LHalfOrders$Order;LHalfOrders$Order;II)V" } : Jvm.MethodName) prog_1_method_47_code (9 : Nat) (Option.none : Option Jvm.ClassFile.FieldType)) ∈ mw_tbl := mwt_2 181 rfl rfl
set_option maxRecDepth 100000 in
theorem w510 : (Jvm.Cond.methodLink "HalfOrders" (140 : Nat) ({ cls := "HalfOrders$RowsOut", name := "lowSetCount", desc := "(LHalfOrders$Order;)I" } : Jvm.MethodName)) ∈ mw_tbl := mwt_2 186 rfl rfl
set_option maxRecDepth 100000 in
theorem w511 : (Jvm.Cond.instanceMethod ({ cls := "HalfOrders$RowsOut", name := "lowSetCount", desc := "(LHalfOrders$Order;)I" } : Jvm.MethodName)) ∈ mw_tbl := mwt_2 187 rfl rfl
set_option maxRecDepth 100000 in
theorem w512 : (Jvm.Cond.selects "HalfOrders$RowsOut" ({ cls := "HalfOrders$RowsOut", name := "lowSetCount", desc := "(LHalfOrders$Order;)I" } : Jvm.MethodName) ({ cls := "HalfOrders$RowsOut", name := "lowSetCount", desc := "(LHalfOrders$Order;)I" } : Jvm.MethodName)) ∈ mw_tbl := mwt_2 188 rfl rfl
set_option maxRecDepth 100000 in
theorem w513 : (Jvm.Cond.code ({ cls := "HalfOrders$RowsOut", name := "lowSetCount", desc := "(LHalfOrders$Order;)I" } : Jvm.MethodName) prog_8_method_8_code (5 : Nat) (Option.some Jvm.ClassFile.FieldType.int)) ∈ mw_tbl := mwt_2 189 rfl rfl
set_option maxRecDepth 100000 in
theorem w514 : (Jvm.Cond.methodLink "HalfOrders$RowsOut" (58 : Nat) ({ cls := "HalfOrders$RowsOut", name := "countWays", desc := "(LHalfOrders$Order;)V" } : Jvm.MethodName)) ∈ mw_tbl := mwt_2 190 rfl rfl
set_option maxRecDepth 100000 in
theorem w516 : (Jvm.Cond.instanceMethod ({ cls := "HalfOrders$RowsOut", name := "countWays", desc := "(LHalfOrders$Order;)V" } : Jvm.MethodName)) ∈ mw_tbl := mwt_2 192 rfl rfl
set_option maxRecDepth 100000 in
theorem w517 : (Jvm.Cond.code ({ cls := "HalfOrders$RowsOut", name := "countWays", desc := "(LHalfOrders$Order;)V" } : Jvm.MethodName) prog_8_method_3_code (4 : Nat) (Option.none : Option Jvm.ClassFile.FieldType)) ∈ mw_tbl := mwt_2 193 rfl rfl
set_option maxRecDepth 100000 in
theorem w518 : (Jvm.Cond.methodLink "HalfOrders$RowsOut" (40 : Nat) ({ cls := "HalfOrders$Order", name := "all", desc := "()I" } : Jvm.MethodName)) ∈ mw_tbl := mwt_2 194 rfl rfl
set_option maxRecDepth 100000 in
theorem w519 : (Jvm.Cond.instanceMethod ({ cls := "HalfOrders$Order", name := "all", desc := "()I" } : Jvm.MethodName)) ∈ mw_tbl := mwt_2 195 rfl rfl
set_option maxRecDepth 100000 in
theorem w520 : (Jvm.Cond.selects "HalfOrders$Order" ({ cls := "HalfOrders$Order", name := "all", desc := "()I" } : Jvm.MethodName) ({ cls := "HalfOrders$Order", name := "all", desc := "()I" } : Jvm.MethodName)) ∈ mw_tbl := mwt_2 196 rfl rfl
set_option maxRecDepth 100000 in
theorem w521 : (Jvm.Cond.sameMethod "HalfOrders$Order" "HalfOrders$Order" "all" "()I") ∈ mw_tbl := mwt_2 197 rfl rfl
set_option maxRecDepth 100000 in
theorem w522 : (Jvm.Cond.selects "HalfOrders$Beside" ({ cls := "HalfOrders$Order", name := "all", desc := "()I" } : Jvm.MethodName) ({ cls := "HalfOrders$Order", name := "all", desc := "()I" } : Jvm.MethodName)) ∈ mw_tbl := mwt_2 198 rfl rfl
set_option maxRecDepth 100000 in
theorem w523 : (Jvm.Cond.selects "HalfOrders$Held" ({ cls := "HalfOrders$Order", name := "all", desc := "()I" } : Jvm.MethodName) ({ cls := "HalfOrders$Order", name := "all", desc := "()I" } : Jvm.MethodName)) ∈ mw_tbl := mwt_2 199 rfl rfl
set_option maxRecDepth 100000 in
theorem w524 : (Jvm.Cond.selects "HalfOrders$Row" ({ cls := "HalfOrders$Order", name := "all", desc := "()I" } : Jvm.MethodName) ({ cls := "HalfOrders$Order", name := "all", desc := "()I" } : Jvm.MethodName)) ∈ mw_tbl := mwt_2 200 rfl rfl
set_option maxRecDepth 100000 in
theorem w525 : (Jvm.Cond.selects "HalfOrders$Stack" ({ cls := "HalfOrders$Order", name := "all", desc := "()I" } : Jvm.MethodName) ({ cls := "HalfOrders$Order", name := "all", desc := "()I" } : Jvm.MethodName)) ∈ mw_tbl := mwt_2 201 rfl rfl
set_option maxRecDepth 100000 in
theorem w526 : (Jvm.Cond.selects "HalfOrders$Times" ({ cls := "HalfOrders$Order", name := "all", desc := "()I" } : Jvm.MethodName) ({ cls := "HalfOrders$Order", name := "all", desc := "()I" } : Jvm.MethodName)) ∈ mw_tbl := mwt_2 202 rfl rfl
set_option maxRecDepth 100000 in
theorem w527 : (Jvm.Cond.code ({ cls := "HalfOrders$Order", name := "all", desc := "()I" } : Jvm.MethodName) prog_6_method_9_code (1 : Nat) (Option.some Jvm.ClassFile.FieldType.int)) ∈ mw_tbl := mwt_2 203 rfl rfl
set_option maxRecDepth 100000 in
theorem w528 : (Jvm.Cond.methodLink "HalfOrders$RowsOut" (44 : Nat) ({ cls := "HalfOrders$RowsOut", name := "spreadWays", desc := "(LHalfOrders$Order;I)V" } : Jvm.MethodName)) ∈ mw_tbl := mwt_2 204 rfl rfl
set_option maxRecDepth 100000 in
theorem w530 : (Jvm.Cond.instanceMethod ({ cls := "HalfOrders$RowsOut", name := "spreadWays", desc := "(LHalfOrders$Order;I)V" } : Jvm.MethodName)) ∈ mw_tbl := mwt_2 206 rfl rfl
set_option maxRecDepth 100000 in
theorem w531 : (Jvm.Cond.code ({ cls := "HalfOrders$RowsOut", name := "spreadWays", desc := "(LHalfOrders$Order;I)V" } : Jvm.MethodName) prog_8_method_4_code (4 : Nat) (Option.none : Option Jvm.ClassFile.FieldType)) ∈ mw_tbl := mwt_2 207 rfl rfl
set_option maxRecDepth 100000 in
theorem w532 : (Jvm.Cond.methodLink "HalfOrders$RowsOut" (54 : Nat) ({ cls := "HalfOrders$RowsOut", name := "canFollow", desc := "(LHalfOrders$Order;II)Z" } : Jvm.MethodName)) ∈ mw_tbl := mwt_2 208 rfl rfl
set_option maxRecDepth 100000 in
theorem w533 : (Jvm.Cond.static ({ cls := "HalfOrders$RowsOut", name := "canFollow", desc := "(LHalfOrders$Order;II)Z" } : Jvm.MethodName)) ∈ mw_tbl := mwt_2 209 rfl rfl
set_option maxRecDepth 100000 in
theorem w534 : (Jvm.Cond.code ({ cls := "HalfOrders$RowsOut", name := "canFollow", desc := "(LHalfOrders$Order;II)Z" } : Jvm.MethodName) prog_8_method_2_code (3 : Nat) (Option.some Jvm.ClassFile.FieldType.boolean)) ∈ mw_tbl := mwt_2 210 rfl rfl
set_option maxRecDepth 100000 in
theorem w535 : (Jvm.Cond.methodLink "HalfOrders$RowsOut" (48 : Nat) ({ cls := "HalfOrders$RowsOut", name := "gatherWays", desc := "(LHalfOrders$Order;I)V" } : Jvm.MethodName)) ∈ mw_tbl := mwt_2 211 rfl rfl
set_option maxRecDepth 100000 in
theorem w537 : (Jvm.Cond.instanceMethod ({ cls := "HalfOrders$RowsOut", name := "gatherWays", desc := "(LHalfOrders$Order;I)V" } : Jvm.MethodName)) ∈ mw_tbl := mwt_2 213 rfl rfl
set_option maxRecDepth 100000 in
theorem w538 : (Jvm.Cond.code ({ cls := "HalfOrders$RowsOut", name := "gatherWays", desc := "(LHalfOrders$Order;I)V" } : Jvm.MethodName) prog_8_method_5_code (5 : Nat) (Option.none : Option Jvm.ClassFile.FieldType)) ∈ mw_tbl := mwt_2 214 rfl rfl
set_option maxRecDepth 100000 in
theorem w539 : (Jvm.Cond.methodLink "HalfOrders" (143 : Nat) ({ cls := "HalfOrders$RowsOut", name := "listLowSets", desc := "(LHalfOrders$Order;LHalfOrders$Line;)V" } : Jvm.MethodName)) ∈ mw_tbl := mwt_2 215 rfl rfl
set_option maxRecDepth 100000 in
theorem w540 : (Jvm.Cond.instanceMethod ({ cls := "HalfOrders$RowsOut", name := "listLowSets", desc := "(LHalfOrders$Order;LHalfOrders$Line;)V" } : Jvm.MethodName)) ∈ mw_tbl := mwt_2 216 rfl rfl
set_option maxRecDepth 100000 in
theorem w541 : (Jvm.Cond.selects "HalfOrders$RowsOut" ({ cls := "HalfOrders$RowsOut", name := "listLowSets", desc := "(LHalfOrders$Order;LHalfOrders$Line;)V" } : Jvm.MethodName) ({ cls := "HalfOrders$RowsOut", name := "listLowSets", desc := "(LHalfOrders$Order;LHalfOrders$Line;)V" } : Jvm.MethodName)) ∈ mw_tbl := mwt_2 217 rfl rfl
set_option maxRecDepth 100000 in
theorem w542 : (Jvm.Cond.code ({ cls := "HalfOrders$RowsOut", name := "listLowSets", desc := "(LHalfOrders$Order;LHalfOrders$Line;)V" } : Jvm.MethodName) prog_8_method_10_code (5 : Nat) (Option.none : Option Jvm.ClassFile.FieldType)) ∈ mw_tbl := mwt_2 218 rfl rfl
set_option maxRecDepth 100000 in
theorem w543 : (Jvm.Cond.methodLink "HalfOrders$RowsOut" (66 : Nat) ({ cls := "HalfOrders$Line", name := "empty", desc := "()V" } : Jvm.MethodName)) ∈ mw_tbl := mwt_2 219 rfl rfl
set_option maxRecDepth 100000 in
theorem w544 : (Jvm.Cond.methodLink "HalfOrders$RowsOut" (71 : Nat) ({ cls := "HalfOrders$Line", name := "add", desc := "(I)V" } : Jvm.MethodName)) ∈ mw_tbl := mwt_2 220 rfl rfl
set_option maxRecDepth 100000 in
theorem w545 : (Jvm.Cond.classLink "HalfOrders" (147 : Nat) "HalfOrders$Held") ∈ mw_tbl := mwt_2 221 rfl rfl
set_option maxRecDepth 100000 in
theorem w546 : (Jvm.Cond.instantiable "HalfOrders$Held" (5 : Nat)) ∈ mw_tbl := mwt_2 222 rfl rfl
set_option maxRecDepth 100000 in
theorem w547 : (Jvm.Cond.methodLink "HalfOrders" (149 : Nat) ({ cls := "HalfOrders$Held", name := "<init>", desc := "(II)V" } : Jvm.MethodName)) ∈ mw_tbl := mwt_2 223 rfl rfl
set_option maxRecDepth 100000 in
theorem w548 : (Jvm.Cond.instanceMethod ({ cls := "HalfOrders$Held", name := "<init>", desc := "(II)V" } : Jvm.MethodName)) ∈ mw_tbl := mwt_2 224 rfl rfl
set_option maxRecDepth 100000 in
theorem w549 : (Jvm.Cond.code ({ cls := "HalfOrders$Held", name := "<init>", desc := "(II)V" } : Jvm.MethodName) prog_4_method_1_code (3 : Nat) (Option.none : Option Jvm.ClassFile.FieldType)) ∈ mw_tbl := mwt_2 225 rfl rfl
set_option maxRecDepth 100000 in
theorem w550 : (Jvm.Cond.methodLink "HalfOrders$Held" (1 : Nat) ({ cls := "HalfOrders$Order", name := "<init>", desc := "(II)V" } : Jvm.MethodName)) ∈ mw_tbl := mwt_2 226 rfl rfl
set_option maxRecDepth 100000 in
theorem w556 : (Jvm.Cond.superclass "HalfOrders$Held" "HalfOrders$Order") ∈ mw_tbl := mwt_2 232 rfl rfl
set_option maxRecDepth 100000 in
theorem w561 : (Jvm.Cond.classLink "HalfOrders" (150 : Nat) "HalfOrders$Row") ∈ mw_tbl := mwt_2 237 rfl rfl
set_option maxRecDepth 100000 in
theorem w562 : (Jvm.Cond.instantiable "HalfOrders$Row" (5 : Nat)) ∈ mw_tbl := mwt_2 238 rfl rfl
set_option maxRecDepth 100000 in
theorem w563 : (Jvm.Cond.methodLink "HalfOrders" (152 : Nat) ({ cls := "HalfOrders$Row", name := "<init>", desc := "(II)V" } : Jvm.MethodName)) ∈ mw_tbl := mwt_2 239 rfl rfl
set_option maxRecDepth 100000 in
theorem w564 : (Jvm.Cond.instanceMethod ({ cls := "HalfOrders$Row", name := "<init>", desc := "(II)V" } : Jvm.MethodName)) ∈ mw_tbl := mwt_3 0 rfl rfl
set_option maxRecDepth 100000 in
theorem w565 : (Jvm.Cond.code ({ cls := "HalfOrders$Row", name := "<init>", desc := "(II)V" } : Jvm.MethodName) prog_7_method_1_code (3 : Nat) (Option.none : Option Jvm.ClassFile.FieldType)) ∈ mw_tbl := mwt_3 1 rfl rfl
set_option maxRecDepth 100000 in
theorem w566 : (Jvm.Cond.methodLink "HalfOrders$Row" (1 : Nat) ({ cls := "HalfOrders$Stack", name := "<init>", desc := "(II)V" } : Jvm.MethodName)) ∈ mw_tbl := mwt_3 2 rfl rfl
set_option maxRecDepth 100000 in
theorem w572 : (Jvm.Cond.superclass "HalfOrders$Row" "HalfOrders$Stack") ∈ mw_tbl := mwt_3 8 rfl rfl
set_option maxRecDepth 100000 in
theorem w581 : (Jvm.Cond.methodLink "HalfOrders" (153 : Nat) ({ cls := "HalfOrders$Order", name := "all", desc := "()I" } : Jvm.MethodName)) ∈ mw_tbl := mwt_3 17 rfl rfl
set_option maxRecDepth 100000 in
theorem w582 : (Jvm.Cond.methodLink "HalfOrders" (156 : Nat) ({ cls := "java/lang/Integer", name := "bitCount", desc := "(I)I" } : Jvm.MethodName)) ∈ mw_tbl := mwt_3 18 rfl rfl
set_option maxRecDepth 100000 in
theorem w583 : (Jvm.Cond.static ({ cls := "java/lang/Integer", name := "bitCount", desc := "(I)I" } : Jvm.MethodName)) ∈ mw_tbl := mwt_3 19 rfl rfl
set_option maxRecDepth 100000 in
theorem w584 : (Jvm.Cond.code ({ cls := "java/lang/Integer", name := "bitCount", desc := "(I)I" } : Jvm.MethodName) prog_15_method_49_code (1 : Nat) (Option.some Jvm.ClassFile.FieldType.int)) ∈ mw_tbl := mwt_3 20 rfl rfl
set_option maxRecDepth 100000 in
theorem w585 : (Jvm.Cond.constant "java/lang/Integer" (265 : Nat) (1431655765 : Int32)) ∈ mw_tbl := mwt_3 21 rfl rfl
set_option maxRecDepth 100000 in
theorem w586 : (Jvm.Cond.constant "java/lang/Integer" (266 : Nat) (858993459 : Int32)) ∈ mw_tbl := mwt_3 22 rfl rfl
set_option maxRecDepth 100000 in
theorem w587 : (Jvm.Cond.constant "java/lang/Integer" (267 : Nat) (252645135 : Int32)) ∈ mw_tbl := mwt_3 23 rfl rfl
set_option maxRecDepth 100000 in
theorem w588 : (Jvm.Cond.methodLink "HalfOrders" (161 : Nat) ({ cls := "HalfOrders", name := "listBits", desc := "(ILHalfOrders$Line;)V" } : Jvm.MethodName)) ∈ mw_tbl := mwt_3 24 rfl rfl
set_option maxRecDepth 100000 in
theorem w589 : (Jvm.Cond.static ({ cls := "HalfOrders", name := "listBits", desc := "(ILHalfOrders$Line;)V" } : Jvm.MethodName)) ∈ mw_tbl := mwt_3 25 rfl rfl
set_option maxRecDepth 100000 in
theorem w590 : (Jvm.Cond.code ({ cls := "HalfOrders", name := "listBits", desc := "(ILHalfOrders$Line;)V" } : Jvm.MethodName) prog_1_method_48_code (3 : Nat) (Option.none : Option Jvm.ClassFile.FieldType)) ∈ mw_tbl := mwt_3 26 rfl rfl
set_option maxRecDepth 100000 in
theorem w591 : (Jvm.Cond.methodLink "HalfOrders" (263 : Nat) ({ cls := "HalfOrders$Line", name := "add", desc := "(I)V" } : Jvm.MethodName)) ∈ mw_tbl := mwt_3 27 rfl rfl
set_option maxRecDepth 100000 in
theorem w596 : (Jvm.Cond.methodLink "HalfOrders" (165 : Nat) ({ cls := "HalfOrders", name := "emptyHand", desc := "()V" } : Jvm.MethodName)) ∈ mw_tbl := mwt_3 32 rfl rfl
set_option maxRecDepth 100000 in
theorem w598 : (Jvm.Cond.instanceMethod ({ cls := "HalfOrders", name := "emptyHand", desc := "()V" } : Jvm.MethodName)) ∈ mw_tbl := mwt_3 34 rfl rfl
set_option maxRecDepth 100000 in
theorem w599 : (Jvm.Cond.code ({ cls := "HalfOrders", name := "emptyHand", desc := "()V" } : Jvm.MethodName) prog_1_method_46_code (1 : Nat) (Option.none : Option Jvm.ClassFile.FieldType)) ∈ mw_tbl := mwt_3 35 rfl rfl
set_option maxRecDepth 100000 in
theorem w604 : (Jvm.Cond.methodLink "HalfOrders" (171 : Nat) ({ cls := "HalfOrders$Order", name := "nextCount", desc := "()I" } : Jvm.MethodName)) ∈ mw_tbl := mwt_3 40 rfl rfl
set_option maxRecDepth 100000 in
theorem w605 : (Jvm.Cond.instanceMethod ({ cls := "HalfOrders$Order", name := "nextCount", desc := "()I" } : Jvm.MethodName)) ∈ mw_tbl := mwt_3 41 rfl rfl
set_option maxRecDepth 100000 in
theorem w606 : (Jvm.Cond.selects "HalfOrders$Order" ({ cls := "HalfOrders$Order", name := "nextCount", desc := "()I" } : Jvm.MethodName) ({ cls := "HalfOrders$Order", name := "nextCount", desc := "()I" } : Jvm.MethodName)) ∈ mw_tbl := mwt_3 42 rfl rfl
set_option maxRecDepth 100000 in
theorem w607 : (Jvm.Cond.sameMethod "HalfOrders$Order" "HalfOrders$Order" "nextCount" "()I") ∈ mw_tbl := mwt_3 43 rfl rfl
set_option maxRecDepth 100000 in
theorem w608 : (Jvm.Cond.selects "HalfOrders$Beside" ({ cls := "HalfOrders$Order", name := "nextCount", desc := "()I" } : Jvm.MethodName) ({ cls := "HalfOrders$Order", name := "nextCount", desc := "()I" } : Jvm.MethodName)) ∈ mw_tbl := mwt_3 44 rfl rfl
set_option maxRecDepth 100000 in
theorem w609 : (Jvm.Cond.selects "HalfOrders$Held" ({ cls := "HalfOrders$Order", name := "nextCount", desc := "()I" } : Jvm.MethodName) ({ cls := "HalfOrders$Order", name := "nextCount", desc := "()I" } : Jvm.MethodName)) ∈ mw_tbl := mwt_3 45 rfl rfl
set_option maxRecDepth 100000 in
theorem w610 : (Jvm.Cond.selects "HalfOrders$Row" ({ cls := "HalfOrders$Order", name := "nextCount", desc := "()I" } : Jvm.MethodName) ({ cls := "HalfOrders$Order", name := "nextCount", desc := "()I" } : Jvm.MethodName)) ∈ mw_tbl := mwt_3 46 rfl rfl
set_option maxRecDepth 100000 in
theorem w611 : (Jvm.Cond.selects "HalfOrders$Stack" ({ cls := "HalfOrders$Order", name := "nextCount", desc := "()I" } : Jvm.MethodName) ({ cls := "HalfOrders$Order", name := "nextCount", desc := "()I" } : Jvm.MethodName)) ∈ mw_tbl := mwt_3 47 rfl rfl
set_option maxRecDepth 100000 in
theorem w612 : (Jvm.Cond.selects "HalfOrders$Times" ({ cls := "HalfOrders$Order", name := "nextCount", desc := "()I" } : Jvm.MethodName) ({ cls := "HalfOrders$Order", name := "nextCount", desc := "()I" } : Jvm.MethodName)) ∈ mw_tbl := mwt_3 48 rfl rfl
set_option maxRecDepth 100000 in
theorem w613 : (Jvm.Cond.code ({ cls := "HalfOrders$Order", name := "nextCount", desc := "()I" } : Jvm.MethodName) prog_6_method_16_code (4 : Nat) (Option.some Jvm.ClassFile.FieldType.int)) ∈ mw_tbl := mwt_3 49 rfl rfl
set_option maxRecDepth 100000 in
theorem w614 : (Jvm.Cond.methodLink "HalfOrders" (174 : Nat) ({ cls := "HalfOrders$Order", name := "widestBits", desc := "()I" } : Jvm.MethodName)) ∈ mw_tbl := mwt_3 50 rfl rfl
set_option maxRecDepth 100000 in
theorem w615 : (Jvm.Cond.instanceMethod ({ cls := "HalfOrders$Order", name := "widestBits", desc := "()I" } : Jvm.MethodName)) ∈ mw_tbl := mwt_3 51 rfl rfl
set_option maxRecDepth 100000 in
theorem w616 : (Jvm.Cond.selects "HalfOrders$Order" ({ cls := "HalfOrders$Order", name := "widestBits", desc := "()I" } : Jvm.MethodName) ({ cls := "HalfOrders$Order", name := "widestBits", desc := "()I" } : Jvm.MethodName)) ∈ mw_tbl := mwt_3 52 rfl rfl
set_option maxRecDepth 100000 in
theorem w617 : (Jvm.Cond.sameMethod "HalfOrders$Order" "HalfOrders$Order" "widestBits" "()I") ∈ mw_tbl := mwt_3 53 rfl rfl
set_option maxRecDepth 100000 in
theorem w618 : (Jvm.Cond.selects "HalfOrders$Beside" ({ cls := "HalfOrders$Order", name := "widestBits", desc := "()I" } : Jvm.MethodName) ({ cls := "HalfOrders$Order", name := "widestBits", desc := "()I" } : Jvm.MethodName)) ∈ mw_tbl := mwt_3 54 rfl rfl
set_option maxRecDepth 100000 in
theorem w619 : (Jvm.Cond.selects "HalfOrders$Held" ({ cls := "HalfOrders$Order", name := "widestBits", desc := "()I" } : Jvm.MethodName) ({ cls := "HalfOrders$Order", name := "widestBits", desc := "()I" } : Jvm.MethodName)) ∈ mw_tbl := mwt_3 55 rfl rfl
set_option maxRecDepth 100000 in
theorem w620 : (Jvm.Cond.selects "HalfOrders$Row" ({ cls := "HalfOrders$Order", name := "widestBits", desc := "()I" } : Jvm.MethodName) ({ cls := "HalfOrders$Order", name := "widestBits", desc := "()I" } : Jvm.MethodName)) ∈ mw_tbl := mwt_3 56 rfl rfl
set_option maxRecDepth 100000 in
theorem w621 : (Jvm.Cond.selects "HalfOrders$Stack" ({ cls := "HalfOrders$Order", name := "widestBits", desc := "()I" } : Jvm.MethodName) ({ cls := "HalfOrders$Order", name := "widestBits", desc := "()I" } : Jvm.MethodName)) ∈ mw_tbl := mwt_3 57 rfl rfl
set_option maxRecDepth 100000 in
theorem w622 : (Jvm.Cond.selects "HalfOrders$Times" ({ cls := "HalfOrders$Order", name := "widestBits", desc := "()I" } : Jvm.MethodName) ({ cls := "HalfOrders$Order", name := "widestBits", desc := "()I" } : Jvm.MethodName)) ∈ mw_tbl := mwt_3 58 rfl rfl
set_option maxRecDepth 100000 in
theorem w623 : (Jvm.Cond.code ({ cls := "HalfOrders$Order", name := "widestBits", desc := "()I" } : Jvm.MethodName) prog_6_method_21_code (4 : Nat) (Option.some Jvm.ClassFile.FieldType.int)) ∈ mw_tbl := mwt_3 59 rfl rfl
set_option maxRecDepth 100000 in
theorem w624 : (Jvm.Cond.methodLink "HalfOrders$Order" (71 : Nat) ({ cls := "HalfOrders$Order", name := "all", desc := "()I" } : Jvm.MethodName)) ∈ mw_tbl := mwt_3 60 rfl rfl
set_option maxRecDepth 100000 in
theorem w625 : (Jvm.Cond.methodLink "HalfOrders$Order" (79 : Nat) ({ cls := "HalfOrders$Order", name := "isAheadOf", desc := "(II)Z" } : Jvm.MethodName)) ∈ mw_tbl := mwt_3 61 rfl rfl
set_option maxRecDepth 100000 in
theorem w626 : (Jvm.Cond.static ({ cls := "HalfOrders$Order", name := "isAheadOf", desc := "(II)Z" } : Jvm.MethodName)) ∈ mw_tbl := mwt_3 62 rfl rfl
set_option maxRecDepth 100000 in
theorem w627 : (Jvm.Cond.code ({ cls := "HalfOrders$Order", name := "isAheadOf", desc := "(II)Z" } : Jvm.MethodName) prog_6_method_22_code (4 : Nat) (Option.some Jvm.ClassFile.FieldType.boolean)) ∈ mw_tbl := mwt_3 63 rfl rfl
set_option maxRecDepth 100000 in
theorem w628 : (Jvm.Cond.methodLink "HalfOrders$Order" (85 : Nat) ({ cls := "java/lang/Integer", name := "bitCount", desc := "(I)I" } : Jvm.MethodName)) ∈ mw_tbl := mwt_3 64 rfl rfl
set_option maxRecDepth 100000 in
theorem w629 : (Jvm.Cond.methodLink "HalfOrders$Order" (82 : Nat) ({ cls := "HalfOrders$Order", name := "isAntichain", desc := "(I)Z" } : Jvm.MethodName)) ∈ mw_tbl := mwt_3 65 rfl rfl
set_option maxRecDepth 100000 in
theorem w631 : (Jvm.Cond.instanceMethod ({ cls := "HalfOrders$Order", name := "isAntichain", desc := "(I)Z" } : Jvm.MethodName)) ∈ mw_tbl := mwt_3 67 rfl rfl
set_option maxRecDepth 100000 in
theorem w632 : (Jvm.Cond.code ({ cls := "HalfOrders$Order", name := "isAntichain", desc := "(I)Z" } : Jvm.MethodName) prog_6_method_20_code (3 : Nat) (Option.some Jvm.ClassFile.FieldType.boolean)) ∈ mw_tbl := mwt_3 68 rfl rfl
set_option maxRecDepth 100000 in
theorem w633 : (Jvm.Cond.methodLink "HalfOrders" (177 : Nat) ({ cls := "HalfOrders$Order", name := "height", desc := "()I" } : Jvm.MethodName)) ∈ mw_tbl := mwt_3 69 rfl rfl
set_option maxRecDepth 100000 in
theorem w634 : (Jvm.Cond.instanceMethod ({ cls := "HalfOrders$Order", name := "height", desc := "()I" } : Jvm.MethodName)) ∈ mw_tbl := mwt_3 70 rfl rfl
set_option maxRecDepth 100000 in
theorem w635 : (Jvm.Cond.selects "HalfOrders$Order" ({ cls := "HalfOrders$Order", name := "height", desc := "()I" } : Jvm.MethodName) ({ cls := "HalfOrders$Order", name := "height", desc := "()I" } : Jvm.MethodName)) ∈ mw_tbl := mwt_3 71 rfl rfl
set_option maxRecDepth 100000 in
theorem w636 : (Jvm.Cond.sameMethod "HalfOrders$Order" "HalfOrders$Order" "height" "()I") ∈ mw_tbl := mwt_3 72 rfl rfl
set_option maxRecDepth 100000 in
theorem w637 : (Jvm.Cond.selects "HalfOrders$Beside" ({ cls := "HalfOrders$Order", name := "height", desc := "()I" } : Jvm.MethodName) ({ cls := "HalfOrders$Order", name := "height", desc := "()I" } : Jvm.MethodName)) ∈ mw_tbl := mwt_3 73 rfl rfl
set_option maxRecDepth 100000 in
theorem w638 : (Jvm.Cond.selects "HalfOrders$Held" ({ cls := "HalfOrders$Order", name := "height", desc := "()I" } : Jvm.MethodName) ({ cls := "HalfOrders$Order", name := "height", desc := "()I" } : Jvm.MethodName)) ∈ mw_tbl := mwt_3 74 rfl rfl
set_option maxRecDepth 100000 in
theorem w639 : (Jvm.Cond.selects "HalfOrders$Row" ({ cls := "HalfOrders$Order", name := "height", desc := "()I" } : Jvm.MethodName) ({ cls := "HalfOrders$Order", name := "height", desc := "()I" } : Jvm.MethodName)) ∈ mw_tbl := mwt_3 75 rfl rfl
set_option maxRecDepth 100000 in
theorem w640 : (Jvm.Cond.selects "HalfOrders$Stack" ({ cls := "HalfOrders$Order", name := "height", desc := "()I" } : Jvm.MethodName) ({ cls := "HalfOrders$Order", name := "height", desc := "()I" } : Jvm.MethodName)) ∈ mw_tbl := mwt_3 76 rfl rfl
set_option maxRecDepth 100000 in
theorem w641 : (Jvm.Cond.selects "HalfOrders$Times" ({ cls := "HalfOrders$Order", name := "height", desc := "()I" } : Jvm.MethodName) ({ cls := "HalfOrders$Order", name := "height", desc := "()I" } : Jvm.MethodName)) ∈ mw_tbl := mwt_3 77 rfl rfl
set_option maxRecDepth 100000 in
theorem w642 : (Jvm.Cond.code ({ cls := "HalfOrders$Order", name := "height", desc := "()I" } : Jvm.MethodName) prog_6_method_19_code (3 : Nat) (Option.some Jvm.ClassFile.FieldType.int)) ∈ mw_tbl := mwt_3 78 rfl rfl
set_option maxRecDepth 100000 in
theorem w643 : (Jvm.Cond.methodLink "HalfOrders$Order" (75 : Nat) ({ cls := "HalfOrders$Order", name := "leastOf", desc := "(I)I" } : Jvm.MethodName)) ∈ mw_tbl := mwt_3 79 rfl rfl
set_option maxRecDepth 100000 in
theorem w645 : (Jvm.Cond.instanceMethod ({ cls := "HalfOrders$Order", name := "leastOf", desc := "(I)I" } : Jvm.MethodName)) ∈ mw_tbl := mwt_3 81 rfl rfl
set_option maxRecDepth 100000 in
theorem w646 : (Jvm.Cond.code ({ cls := "HalfOrders$Order", name := "leastOf", desc := "(I)I" } : Jvm.MethodName) prog_6_method_17_code (4 : Nat) (Option.some Jvm.ClassFile.FieldType.int)) ∈ mw_tbl := mwt_3 82 rfl rfl
set_option maxRecDepth 100000 in
theorem w647 : (Jvm.Cond.methodLink "HalfOrders" (180 : Nat) ({ cls := "HalfOrders$RowsOut", name := "total", desc := "(LHalfOrders$Order;)I" } : Jvm.MethodName)) ∈ mw_tbl := mwt_3 83 rfl rfl
set_option maxRecDepth 100000 in
theorem w648 : (Jvm.Cond.instanceMethod ({ cls := "HalfOrders$RowsOut", name := "total", desc := "(LHalfOrders$Order;)I" } : Jvm.MethodName)) ∈ mw_tbl := mwt_3 84 rfl rfl
set_option maxRecDepth 100000 in
theorem w649 : (Jvm.Cond.selects "HalfOrders$RowsOut" ({ cls := "HalfOrders$RowsOut", name := "total", desc := "(LHalfOrders$Order;)I" } : Jvm.MethodName) ({ cls := "HalfOrders$RowsOut", name := "total", desc := "(LHalfOrders$Order;)I" } : Jvm.MethodName)) ∈ mw_tbl := mwt_3 85 rfl rfl
set_option maxRecDepth 100000 in
theorem w650 : (Jvm.Cond.code ({ cls := "HalfOrders$RowsOut", name := "total", desc := "(LHalfOrders$Order;)I" } : Jvm.MethodName) prog_8_method_6_code (2 : Nat) (Option.some Jvm.ClassFile.FieldType.int)) ∈ mw_tbl := mwt_3 86 rfl rfl
set_option maxRecDepth 100000 in
theorem w651 : (Jvm.Cond.methodLink "HalfOrders" (183 : Nat) ({ cls := "HalfOrders$RowsOut", name := "leastJumps", desc := "(LHalfOrders$Order;)I" } : Jvm.MethodName)) ∈ mw_tbl := mwt_3 87 rfl rfl
set_option maxRecDepth 100000 in
theorem w652 : (Jvm.Cond.instanceMethod ({ cls := "HalfOrders$RowsOut", name := "leastJumps", desc := "(LHalfOrders$Order;)I" } : Jvm.MethodName)) ∈ mw_tbl := mwt_3 88 rfl rfl
set_option maxRecDepth 100000 in
theorem w653 : (Jvm.Cond.selects "HalfOrders$RowsOut" ({ cls := "HalfOrders$RowsOut", name := "leastJumps", desc := "(LHalfOrders$Order;)I" } : Jvm.MethodName) ({ cls := "HalfOrders$RowsOut", name := "leastJumps", desc := "(LHalfOrders$Order;)I" } : Jvm.MethodName)) ∈ mw_tbl := mwt_3 89 rfl rfl
set_option maxRecDepth 100000 in
theorem w654 : (Jvm.Cond.code ({ cls := "HalfOrders$RowsOut", name := "leastJumps", desc := "(LHalfOrders$Order;)I" } : Jvm.MethodName) prog_8_method_20_code (4 : Nat) (Option.some Jvm.ClassFile.FieldType.int)) ∈ mw_tbl := mwt_3 90 rfl rfl
set_option maxRecDepth 100000 in
theorem w655 : (Jvm.Cond.methodLink "HalfOrders$RowsOut" (109 : Nat) ({ cls := "HalfOrders$RowsOut", name := "spreadJumps", desc := "(LHalfOrders$Order;I)V" } : Jvm.MethodName)) ∈ mw_tbl := mwt_3 91 rfl rfl
set_option maxRecDepth 100000 in
theorem w657 : (Jvm.Cond.instanceMethod ({ cls := "HalfOrders$RowsOut", name := "spreadJumps", desc := "(LHalfOrders$Order;I)V" } : Jvm.MethodName)) ∈ mw_tbl := mwt_3 93 rfl rfl
set_option maxRecDepth 100000 in
theorem w658 : (Jvm.Cond.code ({ cls := "HalfOrders$RowsOut", name := "spreadJumps", desc := "(LHalfOrders$Order;I)V" } : Jvm.MethodName) prog_8_method_21_code (7 : Nat) (Option.none : Option Jvm.ClassFile.FieldType)) ∈ mw_tbl := mwt_3 94 rfl rfl
set_option maxRecDepth 100000 in
theorem w659 : (Jvm.Cond.methodLink "HalfOrders" (186 : Nat) ({ cls := "HalfOrders$Bounds", name := "isLattice", desc := "(LHalfOrders$Order;)Z" } : Jvm.MethodName)) ∈ mw_tbl := mwt_3 95 rfl rfl
set_option maxRecDepth 100000 in
theorem w660 : (Jvm.Cond.instanceMethod ({ cls := "HalfOrders$Bounds", name := "isLattice", desc := "(LHalfOrders$Order;)Z" } : Jvm.MethodName)) ∈ mw_tbl := mwt_3 96 rfl rfl
set_option maxRecDepth 100000 in
theorem w661 : (Jvm.Cond.selects "HalfOrders$Bounds" ({ cls := "HalfOrders$Bounds", name := "isLattice", desc := "(LHalfOrders$Order;)Z" } : Jvm.MethodName) ({ cls := "HalfOrders$Bounds", name := "isLattice", desc := "(LHalfOrders$Order;)Z" } : Jvm.MethodName)) ∈ mw_tbl := mwt_3 97 rfl rfl
set_option maxRecDepth 100000 in
theorem w662 : (Jvm.Cond.code ({ cls := "HalfOrders$Bounds", name := "isLattice", desc := "(LHalfOrders$Order;)Z" } : Jvm.MethodName) prog_3_method_2_code (6 : Nat) (Option.some Jvm.ClassFile.FieldType.boolean)) ∈ mw_tbl := mwt_3 98 rfl rfl
set_option maxRecDepth 100000 in
theorem w663 : (Jvm.Cond.methodLink "HalfOrders$Bounds" (27 : Nat) ({ cls := "HalfOrders$Order", name := "leastAbove", desc := "(II)I" } : Jvm.MethodName)) ∈ mw_tbl := mwt_3 99 rfl rfl
set_option maxRecDepth 100000 in
theorem w664 : (Jvm.Cond.instanceMethod ({ cls := "HalfOrders$Order", name := "leastAbove", desc := "(II)I" } : Jvm.MethodName)) ∈ mw_tbl := mwt_3 100 rfl rfl
set_option maxRecDepth 100000 in
theorem w665 : (Jvm.Cond.selects "HalfOrders$Order" ({ cls := "HalfOrders$Order", name := "leastAbove", desc := "(II)I" } : Jvm.MethodName) ({ cls := "HalfOrders$Order", name := "leastAbove", desc := "(II)I" } : Jvm.MethodName)) ∈ mw_tbl := mwt_3 101 rfl rfl
set_option maxRecDepth 100000 in
theorem w666 : (Jvm.Cond.sameMethod "HalfOrders$Order" "HalfOrders$Order" "leastAbove" "(II)I") ∈ mw_tbl := mwt_3 102 rfl rfl
set_option maxRecDepth 100000 in
theorem w667 : (Jvm.Cond.selects "HalfOrders$Beside" ({ cls := "HalfOrders$Order", name := "leastAbove", desc := "(II)I" } : Jvm.MethodName) ({ cls := "HalfOrders$Order", name := "leastAbove", desc := "(II)I" } : Jvm.MethodName)) ∈ mw_tbl := mwt_3 103 rfl rfl
set_option maxRecDepth 100000 in
theorem w668 : (Jvm.Cond.selects "HalfOrders$Held" ({ cls := "HalfOrders$Order", name := "leastAbove", desc := "(II)I" } : Jvm.MethodName) ({ cls := "HalfOrders$Order", name := "leastAbove", desc := "(II)I" } : Jvm.MethodName)) ∈ mw_tbl := mwt_3 104 rfl rfl
set_option maxRecDepth 100000 in
theorem w669 : (Jvm.Cond.selects "HalfOrders$Row" ({ cls := "HalfOrders$Order", name := "leastAbove", desc := "(II)I" } : Jvm.MethodName) ({ cls := "HalfOrders$Order", name := "leastAbove", desc := "(II)I" } : Jvm.MethodName)) ∈ mw_tbl := mwt_3 105 rfl rfl
set_option maxRecDepth 100000 in
theorem w670 : (Jvm.Cond.selects "HalfOrders$Stack" ({ cls := "HalfOrders$Order", name := "leastAbove", desc := "(II)I" } : Jvm.MethodName) ({ cls := "HalfOrders$Order", name := "leastAbove", desc := "(II)I" } : Jvm.MethodName)) ∈ mw_tbl := mwt_3 106 rfl rfl
set_option maxRecDepth 100000 in
theorem w671 : (Jvm.Cond.selects "HalfOrders$Times" ({ cls := "HalfOrders$Order", name := "leastAbove", desc := "(II)I" } : Jvm.MethodName) ({ cls := "HalfOrders$Order", name := "leastAbove", desc := "(II)I" } : Jvm.MethodName)) ∈ mw_tbl := mwt_3 107 rfl rfl
set_option maxRecDepth 100000 in
theorem w672 : (Jvm.Cond.code ({ cls := "HalfOrders$Order", name := "leastAbove", desc := "(II)I" } : Jvm.MethodName) prog_6_method_27_code (5 : Nat) (Option.some Jvm.ClassFile.FieldType.int)) ∈ mw_tbl := mwt_3 108 rfl rfl
set_option maxRecDepth 100000 in
theorem w673 : (Jvm.Cond.methodLink "HalfOrders$Bounds" (31 : Nat) ({ cls := "HalfOrders$Order", name := "greatestUnder", desc := "(II)I" } : Jvm.MethodName)) ∈ mw_tbl := mwt_3 109 rfl rfl
set_option maxRecDepth 100000 in
theorem w674 : (Jvm.Cond.instanceMethod ({ cls := "HalfOrders$Order", name := "greatestUnder", desc := "(II)I" } : Jvm.MethodName)) ∈ mw_tbl := mwt_3 110 rfl rfl
set_option maxRecDepth 100000 in
theorem w675 : (Jvm.Cond.selects "HalfOrders$Order" ({ cls := "HalfOrders$Order", name := "greatestUnder", desc := "(II)I" } : Jvm.MethodName) ({ cls := "HalfOrders$Order", name := "greatestUnder", desc := "(II)I" } : Jvm.MethodName)) ∈ mw_tbl := mwt_3 111 rfl rfl
set_option maxRecDepth 100000 in
theorem w676 : (Jvm.Cond.sameMethod "HalfOrders$Order" "HalfOrders$Order" "greatestUnder" "(II)I") ∈ mw_tbl := mwt_3 112 rfl rfl
set_option maxRecDepth 100000 in
theorem w677 : (Jvm.Cond.selects "HalfOrders$Beside" ({ cls := "HalfOrders$Order", name := "greatestUnder", desc := "(II)I" } : Jvm.MethodName) ({ cls := "HalfOrders$Order", name := "greatestUnder", desc := "(II)I" } : Jvm.MethodName)) ∈ mw_tbl := mwt_3 113 rfl rfl
set_option maxRecDepth 100000 in
theorem w678 : (Jvm.Cond.selects "HalfOrders$Held" ({ cls := "HalfOrders$Order", name := "greatestUnder", desc := "(II)I" } : Jvm.MethodName) ({ cls := "HalfOrders$Order", name := "greatestUnder", desc := "(II)I" } : Jvm.MethodName)) ∈ mw_tbl := mwt_3 114 rfl rfl
set_option maxRecDepth 100000 in
theorem w679 : (Jvm.Cond.selects "HalfOrders$Row" ({ cls := "HalfOrders$Order", name := "greatestUnder", desc := "(II)I" } : Jvm.MethodName) ({ cls := "HalfOrders$Order", name := "greatestUnder", desc := "(II)I" } : Jvm.MethodName)) ∈ mw_tbl := mwt_3 115 rfl rfl
set_option maxRecDepth 100000 in
theorem w680 : (Jvm.Cond.selects "HalfOrders$Stack" ({ cls := "HalfOrders$Order", name := "greatestUnder", desc := "(II)I" } : Jvm.MethodName) ({ cls := "HalfOrders$Order", name := "greatestUnder", desc := "(II)I" } : Jvm.MethodName)) ∈ mw_tbl := mwt_3 116 rfl rfl
set_option maxRecDepth 100000 in
theorem w681 : (Jvm.Cond.selects "HalfOrders$Times" ({ cls := "HalfOrders$Order", name := "greatestUnder", desc := "(II)I" } : Jvm.MethodName) ({ cls := "HalfOrders$Order", name := "greatestUnder", desc := "(II)I" } : Jvm.MethodName)) ∈ mw_tbl := mwt_3 117 rfl rfl
set_option maxRecDepth 100000 in
theorem w682 : (Jvm.Cond.code ({ cls := "HalfOrders$Order", name := "greatestUnder", desc := "(II)I" } : Jvm.MethodName) prog_6_method_28_code (5 : Nat) (Option.some Jvm.ClassFile.FieldType.int)) ∈ mw_tbl := mwt_3 118 rfl rfl
set_option maxRecDepth 100000 in
theorem w683 : (Jvm.Cond.methodLink "HalfOrders" (190 : Nat) ({ cls := "HalfOrders$Bounds", name := "firstUneven", desc := "(LHalfOrders$Order;)I" } : Jvm.MethodName)) ∈ mw_tbl := mwt_3 119 rfl rfl
set_option maxRecDepth 100000 in
theorem w684 : (Jvm.Cond.instanceMethod ({ cls := "HalfOrders$Bounds", name := "firstUneven", desc := "(LHalfOrders$Order;)I" } : Jvm.MethodName)) ∈ mw_tbl := mwt_3 120 rfl rfl
set_option maxRecDepth 100000 in
theorem w685 : (Jvm.Cond.selects "HalfOrders$Bounds" ({ cls := "HalfOrders$Bounds", name := "firstUneven", desc := "(LHalfOrders$Order;)I" } : Jvm.MethodName) ({ cls := "HalfOrders$Bounds", name := "firstUneven", desc := "(LHalfOrders$Order;)I" } : Jvm.MethodName)) ∈ mw_tbl := mwt_3 121 rfl rfl
set_option maxRecDepth 100000 in
theorem w686 : (Jvm.Cond.code ({ cls := "HalfOrders$Bounds", name := "firstUneven", desc := "(LHalfOrders$Order;)I" } : Jvm.MethodName) prog_3_method_3_code (5 : Nat) (Option.some Jvm.ClassFile.FieldType.int)) ∈ mw_tbl := mwt_3 122 rfl rfl
set_option maxRecDepth 100000 in
theorem w687 : (Jvm.Cond.methodLink "HalfOrders$Bounds" (34 : Nat) ({ cls := "HalfOrders$Bounds", name := "isEvenAt", desc := "(III)Z" } : Jvm.MethodName)) ∈ mw_tbl := mwt_3 123 rfl rfl
set_option maxRecDepth 100000 in
theorem w689 : (Jvm.Cond.instanceMethod ({ cls := "HalfOrders$Bounds", name := "isEvenAt", desc := "(III)Z" } : Jvm.MethodName)) ∈ mw_tbl := mwt_3 125 rfl rfl
set_option maxRecDepth 100000 in
theorem w690 : (Jvm.Cond.code ({ cls := "HalfOrders$Bounds", name := "isEvenAt", desc := "(III)Z" } : Jvm.MethodName) prog_3_method_4_code (7 : Nat) (Option.some Jvm.ClassFile.FieldType.boolean)) ∈ mw_tbl := mwt_3 126 rfl rfl
set_option maxRecDepth 100000 in
theorem w691 : (Jvm.Cond.methodLink "HalfOrders" (193 : Nat) ({ cls := "HalfOrders$Order", name := "firstBent", desc := "()I" } : Jvm.MethodName)) ∈ mw_tbl := mwt_3 127 rfl rfl
set_option maxRecDepth 100000 in
theorem w692 : (Jvm.Cond.instanceMethod ({ cls := "HalfOrders$Order", name := "firstBent", desc := "()I" } : Jvm.MethodName)) ∈ mw_tbl := mwt_3 128 rfl rfl
set_option maxRecDepth 100000 in
theorem w693 : (Jvm.Cond.selects "HalfOrders$Order" ({ cls := "HalfOrders$Order", name := "firstBent", desc := "()I" } : Jvm.MethodName) ({ cls := "HalfOrders$Order", name := "firstBent", desc := "()I" } : Jvm.MethodName)) ∈ mw_tbl := mwt_3 129 rfl rfl
set_option maxRecDepth 100000 in
theorem w694 : (Jvm.Cond.sameMethod "HalfOrders$Order" "HalfOrders$Order" "firstBent" "()I") ∈ mw_tbl := mwt_3 130 rfl rfl
set_option maxRecDepth 100000 in
theorem w695 : (Jvm.Cond.selects "HalfOrders$Beside" ({ cls := "HalfOrders$Order", name := "firstBent", desc := "()I" } : Jvm.MethodName) ({ cls := "HalfOrders$Order", name := "firstBent", desc := "()I" } : Jvm.MethodName)) ∈ mw_tbl := mwt_3 131 rfl rfl
set_option maxRecDepth 100000 in
theorem w696 : (Jvm.Cond.selects "HalfOrders$Held" ({ cls := "HalfOrders$Order", name := "firstBent", desc := "()I" } : Jvm.MethodName) ({ cls := "HalfOrders$Order", name := "firstBent", desc := "()I" } : Jvm.MethodName)) ∈ mw_tbl := mwt_3 132 rfl rfl
set_option maxRecDepth 100000 in
theorem w697 : (Jvm.Cond.selects "HalfOrders$Row" ({ cls := "HalfOrders$Order", name := "firstBent", desc := "()I" } : Jvm.MethodName) ({ cls := "HalfOrders$Order", name := "firstBent", desc := "()I" } : Jvm.MethodName)) ∈ mw_tbl := mwt_3 133 rfl rfl
set_option maxRecDepth 100000 in
theorem w698 : (Jvm.Cond.selects "HalfOrders$Stack" ({ cls := "HalfOrders$Order", name := "firstBent", desc := "()I" } : Jvm.MethodName) ({ cls := "HalfOrders$Order", name := "firstBent", desc := "()I" } : Jvm.MethodName)) ∈ mw_tbl := mwt_3 134 rfl rfl
set_option maxRecDepth 100000 in
theorem w699 : (Jvm.Cond.selects "HalfOrders$Times" ({ cls := "HalfOrders$Order", name := "firstBent", desc := "()I" } : Jvm.MethodName) ({ cls := "HalfOrders$Order", name := "firstBent", desc := "()I" } : Jvm.MethodName)) ∈ mw_tbl := mwt_3 135 rfl rfl
set_option maxRecDepth 100000 in
theorem w700 : (Jvm.Cond.code ({ cls := "HalfOrders$Order", name := "firstBent", desc := "()I" } : Jvm.MethodName) prog_6_method_29_code (4 : Nat) (Option.some Jvm.ClassFile.FieldType.int)) ∈ mw_tbl := mwt_3 136 rfl rfl
set_option maxRecDepth 100000 in
theorem w701 : (Jvm.Cond.methodLink "HalfOrders$Order" (103 : Nat) ({ cls := "HalfOrders$Order", name := "areUnordered", desc := "(II)Z" } : Jvm.MethodName)) ∈ mw_tbl := mwt_3 137 rfl rfl
set_option maxRecDepth 100000 in
theorem w702 : (Jvm.Cond.instanceMethod ({ cls := "HalfOrders$Order", name := "areUnordered", desc := "(II)Z" } : Jvm.MethodName)) ∈ mw_tbl := mwt_3 138 rfl rfl
set_option maxRecDepth 100000 in
theorem w703 : (Jvm.Cond.selects "HalfOrders$Order" ({ cls := "HalfOrders$Order", name := "areUnordered", desc := "(II)Z" } : Jvm.MethodName) ({ cls := "HalfOrders$Order", name := "areUnordered", desc := "(II)Z" } : Jvm.MethodName)) ∈ mw_tbl := mwt_3 139 rfl rfl
set_option maxRecDepth 100000 in
theorem w704 : (Jvm.Cond.sameMethod "HalfOrders$Order" "HalfOrders$Order" "areUnordered" "(II)Z") ∈ mw_tbl := mwt_3 140 rfl rfl
set_option maxRecDepth 100000 in
theorem w705 : (Jvm.Cond.selects "HalfOrders$Beside" ({ cls := "HalfOrders$Order", name := "areUnordered", desc := "(II)Z" } : Jvm.MethodName) ({ cls := "HalfOrders$Order", name := "areUnordered", desc := "(II)Z" } : Jvm.MethodName)) ∈ mw_tbl := mwt_3 141 rfl rfl
set_option maxRecDepth 100000 in
theorem w706 : (Jvm.Cond.selects "HalfOrders$Held" ({ cls := "HalfOrders$Order", name := "areUnordered", desc := "(II)Z" } : Jvm.MethodName) ({ cls := "HalfOrders$Order", name := "areUnordered", desc := "(II)Z" } : Jvm.MethodName)) ∈ mw_tbl := mwt_3 142 rfl rfl
set_option maxRecDepth 100000 in
theorem w707 : (Jvm.Cond.selects "HalfOrders$Row" ({ cls := "HalfOrders$Order", name := "areUnordered", desc := "(II)Z" } : Jvm.MethodName) ({ cls := "HalfOrders$Order", name := "areUnordered", desc := "(II)Z" } : Jvm.MethodName)) ∈ mw_tbl := mwt_3 143 rfl rfl
set_option maxRecDepth 100000 in
theorem w708 : (Jvm.Cond.selects "HalfOrders$Stack" ({ cls := "HalfOrders$Order", name := "areUnordered", desc := "(II)Z" } : Jvm.MethodName) ({ cls := "HalfOrders$Order", name := "areUnordered", desc := "(II)Z" } : Jvm.MethodName)) ∈ mw_tbl := mwt_3 144 rfl rfl
set_option maxRecDepth 100000 in
theorem w709 : (Jvm.Cond.selects "HalfOrders$Times" ({ cls := "HalfOrders$Order", name := "areUnordered", desc := "(II)Z" } : Jvm.MethodName) ({ cls := "HalfOrders$Order", name := "areUnordered", desc := "(II)Z" } : Jvm.MethodName)) ∈ mw_tbl := mwt_3 145 rfl rfl
set_option maxRecDepth 100000 in
theorem w710 : (Jvm.Cond.code ({ cls := "HalfOrders$Order", name := "areUnordered", desc := "(II)Z" } : Jvm.MethodName) prog_6_method_12_code (3 : Nat) (Option.some Jvm.ClassFile.FieldType.boolean)) ∈ mw_tbl := mwt_3 146 rfl rfl
set_option maxRecDepth 100000 in
theorem w711 : (Jvm.Cond.methodLink "HalfOrders$Order" (106 : Nat) ({ cls := "HalfOrders$Order", name := "firstBentEnd", desc := "(II)I" } : Jvm.MethodName)) ∈ mw_tbl := mwt_3 147 rfl rfl
set_option maxRecDepth 100000 in
theorem w713 : (Jvm.Cond.instanceMethod ({ cls := "HalfOrders$Order", name := "firstBentEnd", desc := "(II)I" } : Jvm.MethodName)) ∈ mw_tbl := mwt_3 149 rfl rfl
set_option maxRecDepth 100000 in
theorem w714 : (Jvm.Cond.code ({ cls := "HalfOrders$Order", name := "firstBentEnd", desc := "(II)I" } : Jvm.MethodName) prog_6_method_30_code (8 : Nat) (Option.some Jvm.ClassFile.FieldType.int)) ∈ mw_tbl := mwt_3 150 rfl rfl
set_option maxRecDepth 100000 in
theorem w715 : (Jvm.Cond.methodLink "HalfOrders" (196 : Nat) ({ cls := "HalfOrders$Search", name := "findTwo", desc := "(LHalfOrders$Order;)Z" } : Jvm.MethodName)) ∈ mw_tbl := mwt_3 151 rfl rfl
set_option maxRecDepth 100000 in
theorem w716 : (Jvm.Cond.instanceMethod ({ cls := "HalfOrders$Search", name := "findTwo", desc := "(LHalfOrders$Order;)Z" } : Jvm.MethodName)) ∈ mw_tbl := mwt_3 152 rfl rfl
set_option maxRecDepth 100000 in
theorem w717 : (Jvm.Cond.selects "HalfOrders$Search" ({ cls := "HalfOrders$Search", name := "findTwo", desc := "(LHalfOrders$Order;)Z" } : Jvm.MethodName) ({ cls := "HalfOrders$Search", name := "findTwo", desc := "(LHalfOrders$Order;)Z" } : Jvm.MethodName)) ∈ mw_tbl := mwt_3 153 rfl rfl
set_option maxRecDepth 100000 in
theorem w718 : (Jvm.Cond.code ({ cls := "HalfOrders$Search", name := "findTwo", desc := "(LHalfOrders$Order;)Z" } : Jvm.MethodName) prog_9_method_4_code (2 : Nat) (Option.some Jvm.ClassFile.FieldType.boolean)) ∈ mw_tbl := mwt_3 154 rfl rfl
set_option maxRecDepth 100000 in
theorem w719 : (Jvm.Cond.methodLink "HalfOrders$Search" (74 : Nat) ({ cls := "HalfOrders$Line", name := "empty", desc := "()V" } : Jvm.MethodName)) ∈ mw_tbl := mwt_3 155 rfl rfl
set_option maxRecDepth 100000 in
theorem w720 : (Jvm.Cond.methodLink "HalfOrders$Search" (77 : Nat) ({ cls := "HalfOrders$Search", name := "growFirstRow", desc := "(LHalfOrders$Order;II)Z" } : Jvm.MethodName)) ∈ mw_tbl := mwt_3 156 rfl rfl
set_option maxRecDepth 100000 in
theorem w722 : (Jvm.Cond.instanceMethod ({ cls := "HalfOrders$Search", name := "growFirstRow", desc := "(LHalfOrders$Order;II)Z" } : Jvm.MethodName)) ∈ mw_tbl := mwt_3 158 rfl rfl
set_option maxRecDepth 100000 in
theorem w723 : (Jvm.Cond.code ({ cls := "HalfOrders$Search", name := "growFirstRow", desc := "(LHalfOrders$Order;II)Z" } : Jvm.MethodName) prog_9_method_5_code (5 : Nat) (Option.some Jvm.ClassFile.FieldType.boolean)) ∈ mw_tbl := mwt_3 159 rfl rfl
set_option maxRecDepth 100000 in
theorem w724 : (Jvm.Cond.methodLink "HalfOrders$Search" (81 : Nat) ({ cls := "HalfOrders$RowsOut", name := "canFollow", desc := "(LHalfOrders$Order;II)Z" } : Jvm.MethodName)) ∈ mw_tbl := mwt_3 160 rfl rfl
set_option maxRecDepth 100000 in
theorem w725 : (Jvm.Cond.methodLink "HalfOrders$Search" (86 : Nat) ({ cls := "HalfOrders$Search", name := "partsOrdered", desc := "(LHalfOrders$Order;II)Z" } : Jvm.MethodName)) ∈ mw_tbl := mwt_3 161 rfl rfl
set_option maxRecDepth 100000 in
theorem w726 : (Jvm.Cond.static ({ cls := "HalfOrders$Search", name := "partsOrdered", desc := "(LHalfOrders$Order;II)Z" } : Jvm.MethodName)) ∈ mw_tbl := mwt_3 162 rfl rfl
set_option maxRecDepth 100000 in
theorem w727 : (Jvm.Cond.code ({ cls := "HalfOrders$Search", name := "partsOrdered", desc := "(LHalfOrders$Order;II)Z" } : Jvm.MethodName) prog_9_method_6_code (6 : Nat) (Option.some Jvm.ClassFile.FieldType.boolean)) ∈ mw_tbl := mwt_3 163 rfl rfl
set_option maxRecDepth 100000 in
theorem w728 : (Jvm.Cond.methodLink "HalfOrders$Search" (95 : Nat) ({ cls := "HalfOrders$Order", name := "all", desc := "()I" } : Jvm.MethodName)) ∈ mw_tbl := mwt_3 164 rfl rfl
set_option maxRecDepth 100000 in
theorem w729 : (Jvm.Cond.methodLink "HalfOrders$Search" (89 : Nat) ({ cls := "HalfOrders$Line", name := "add", desc := "(I)V" } : Jvm.MethodName)) ∈ mw_tbl := mwt_3 165 rfl rfl
set_option maxRecDepth 100000 in
theorem w730 : (Jvm.Cond.methodLink "HalfOrders$Search" (92 : Nat) ({ cls := "HalfOrders$Line", name := "takeLast", desc := "()V" } : Jvm.MethodName)) ∈ mw_tbl := mwt_3 166 rfl rfl
set_option maxRecDepth 100000 in
theorem w731 : (Jvm.Cond.instanceMethod ({ cls := "HalfOrders$Line", name := "takeLast", desc := "()V" } : Jvm.MethodName)) ∈ mw_tbl := mwt_3 167 rfl rfl
set_option maxRecDepth 100000 in
theorem w732 : (Jvm.Cond.selects "HalfOrders$Line" ({ cls := "HalfOrders$Line", name := "takeLast", desc := "()V" } : Jvm.MethodName) ({ cls := "HalfOrders$Line", name := "takeLast", desc := "()V" } : Jvm.MethodName)) ∈ mw_tbl := mwt_3 168 rfl rfl
set_option maxRecDepth 100000 in
theorem w733 : (Jvm.Cond.code ({ cls := "HalfOrders$Line", name := "takeLast", desc := "()V" } : Jvm.MethodName) prog_5_method_4_code (1 : Nat) (Option.none : Option Jvm.ClassFile.FieldType)) ∈ mw_tbl := mwt_3 169 rfl rfl
set_option maxRecDepth 100000 in
theorem w742 : (Jvm.Cond.methodLink "HalfOrders" (202 : Nat) ({ cls := "HalfOrders$Order", name := "isNext", desc := "(II)Z" } : Jvm.MethodName)) ∈ mw_tbl := mwt_3 178 rfl rfl
set_option maxRecDepth 100000 in
theorem w751 : (Jvm.Cond.methodLink "HalfOrders" (205 : Nat) ({ cls := "HalfOrders$Order", name := "hasThing", desc := "(I)Z" } : Jvm.MethodName)) ∈ mw_tbl := mwt_3 187 rfl rfl
set_option maxRecDepth 100000 in
theorem w752 : (Jvm.Cond.methodLink "HalfOrders" (208 : Nat) ({ cls := "HalfOrders$Search", name := "chainOf", desc := "(LHalfOrders$Order;I)I" } : Jvm.MethodName)) ∈ mw_tbl := mwt_3 188 rfl rfl
set_option maxRecDepth 100000 in
theorem w753 : (Jvm.Cond.instanceMethod ({ cls := "HalfOrders$Search", name := "chainOf", desc := "(LHalfOrders$Order;I)I" } : Jvm.MethodName)) ∈ mw_tbl := mwt_3 189 rfl rfl
set_option maxRecDepth 100000 in
theorem w754 : (Jvm.Cond.selects "HalfOrders$Search" ({ cls := "HalfOrders$Search", name := "chainOf", desc := "(LHalfOrders$Order;I)I" } : Jvm.MethodName) ({ cls := "HalfOrders$Search", name := "chainOf", desc := "(LHalfOrders$Order;I)I" } : Jvm.MethodName)) ∈ mw_tbl := mwt_3 190 rfl rfl
set_option maxRecDepth 100000 in
theorem w755 : (Jvm.Cond.code ({ cls := "HalfOrders$Search", name := "chainOf", desc := "(LHalfOrders$Order;I)I" } : Jvm.MethodName) prog_9_method_2_code (4 : Nat) (Option.some Jvm.ClassFile.FieldType.int)) ∈ mw_tbl := mwt_3 191 rfl rfl
set_option maxRecDepth 100000 in
theorem w756 : (Jvm.Cond.methodLink "HalfOrders$Search" (36 : Nat) ({ cls := "HalfOrders$Order", name := "widestBits", desc := "()I" } : Jvm.MethodName)) ∈ mw_tbl := mwt_3 192 rfl rfl
set_option maxRecDepth 100000 in
theorem w757 : (Jvm.Cond.methodLink "HalfOrders$Search" (42 : Nat) ({ cls := "java/lang/Integer", name := "bitCount", desc := "(I)I" } : Jvm.MethodName)) ∈ mw_tbl := mwt_3 193 rfl rfl
set_option maxRecDepth 100000 in
theorem w758 : (Jvm.Cond.methodLink "HalfOrders$Search" (48 : Nat) ({ cls := "java/util/Arrays", name := "fill", desc := "([II)V" } : Jvm.MethodName)) ∈ mw_tbl := mwt_3 194 rfl rfl
set_option maxRecDepth 100000 in
theorem w759 : (Jvm.Cond.static ({ cls := "java/util/Arrays", name := "fill", desc := "([II)V" } : Jvm.MethodName)) ∈ mw_tbl := mwt_3 195 rfl rfl
set_option maxRecDepth 100000 in
theorem w760 : (Jvm.Cond.code ({ cls := "java/util/Arrays", name := "fill", desc := "([II)V" } : Jvm.MethodName) prog_17_method_103_code (4 : Nat) (Option.none : Option Jvm.ClassFile.FieldType)) ∈ mw_tbl := mwt_3 196 rfl rfl
set_option maxRecDepth 100000 in
theorem w761 : (Jvm.Cond.methodLink "HalfOrders$Search" (54 : Nat) ({ cls := "HalfOrders$Search", name := "putIntoChains", desc := "(LHalfOrders$Order;III)Z" } : Jvm.MethodName)) ∈ mw_tbl := mwt_3 197 rfl rfl
set_option maxRecDepth 100000 in
theorem w763 : (Jvm.Cond.instanceMethod ({ cls := "HalfOrders$Search", name := "putIntoChains", desc := "(LHalfOrders$Order;III)Z" } : Jvm.MethodName)) ∈ mw_tbl := mwt_3 199 rfl rfl
set_option maxRecDepth 100000 in
theorem w764 : (Jvm.Cond.code ({ cls := "HalfOrders$Search", name := "putIntoChains", desc := "(LHalfOrders$Order;III)Z" } : Jvm.MethodName) prog_9_method_3_code (7 : Nat) (Option.some Jvm.ClassFile.FieldType.boolean)) ∈ mw_tbl := mwt_3 200 rfl rfl
set_option maxRecDepth 100000 in
theorem w765 : (Jvm.Cond.methodLink "HalfOrders$Search" (68 : Nat) ({ cls := "java/lang/Math", name := "max", desc := "(II)I" } : Jvm.MethodName)) ∈ mw_tbl := mwt_3 201 rfl rfl
set_option maxRecDepth 100000 in
theorem w766 : (Jvm.Cond.methodLink "HalfOrders" (212 : Nat) ({ cls := "HalfOrders$Order", name := "layer", desc := "(I)I" } : Jvm.MethodName)) ∈ mw_tbl := mwt_3 202 rfl rfl
set_option maxRecDepth 100000 in
theorem w767 : (Jvm.Cond.instanceMethod ({ cls := "HalfOrders$Order", name := "layer", desc := "(I)I" } : Jvm.MethodName)) ∈ mw_tbl := mwt_3 203 rfl rfl
set_option maxRecDepth 100000 in
theorem w768 : (Jvm.Cond.selects "HalfOrders$Order" ({ cls := "HalfOrders$Order", name := "layer", desc := "(I)I" } : Jvm.MethodName) ({ cls := "HalfOrders$Order", name := "layer", desc := "(I)I" } : Jvm.MethodName)) ∈ mw_tbl := mwt_3 204 rfl rfl
set_option maxRecDepth 100000 in
theorem w769 : (Jvm.Cond.sameMethod "HalfOrders$Order" "HalfOrders$Order" "layer" "(I)I") ∈ mw_tbl := mwt_3 205 rfl rfl
set_option maxRecDepth 100000 in
theorem w770 : (Jvm.Cond.selects "HalfOrders$Beside" ({ cls := "HalfOrders$Order", name := "layer", desc := "(I)I" } : Jvm.MethodName) ({ cls := "HalfOrders$Order", name := "layer", desc := "(I)I" } : Jvm.MethodName)) ∈ mw_tbl := mwt_3 206 rfl rfl
set_option maxRecDepth 100000 in
theorem w771 : (Jvm.Cond.selects "HalfOrders$Held" ({ cls := "HalfOrders$Order", name := "layer", desc := "(I)I" } : Jvm.MethodName) ({ cls := "HalfOrders$Order", name := "layer", desc := "(I)I" } : Jvm.MethodName)) ∈ mw_tbl := mwt_3 207 rfl rfl
set_option maxRecDepth 100000 in
theorem w772 : (Jvm.Cond.selects "HalfOrders$Row" ({ cls := "HalfOrders$Order", name := "layer", desc := "(I)I" } : Jvm.MethodName) ({ cls := "HalfOrders$Order", name := "layer", desc := "(I)I" } : Jvm.MethodName)) ∈ mw_tbl := mwt_3 208 rfl rfl
set_option maxRecDepth 100000 in
theorem w773 : (Jvm.Cond.selects "HalfOrders$Stack" ({ cls := "HalfOrders$Order", name := "layer", desc := "(I)I" } : Jvm.MethodName) ({ cls := "HalfOrders$Order", name := "layer", desc := "(I)I" } : Jvm.MethodName)) ∈ mw_tbl := mwt_3 209 rfl rfl
set_option maxRecDepth 100000 in
theorem w774 : (Jvm.Cond.selects "HalfOrders$Times" ({ cls := "HalfOrders$Order", name := "layer", desc := "(I)I" } : Jvm.MethodName) ({ cls := "HalfOrders$Order", name := "layer", desc := "(I)I" } : Jvm.MethodName)) ∈ mw_tbl := mwt_3 210 rfl rfl
set_option maxRecDepth 100000 in
theorem w775 : (Jvm.Cond.code ({ cls := "HalfOrders$Order", name := "layer", desc := "(I)I" } : Jvm.MethodName) prog_6_method_18_code (5 : Nat) (Option.some Jvm.ClassFile.FieldType.int)) ∈ mw_tbl := mwt_3 211 rfl rfl
set_option maxRecDepth 100000 in
theorem w780 : (Jvm.Cond.methodLink "HalfOrders" (215 : Nat) ({ cls := "HalfOrders$RowsOut", name := "lowSet", desc := "(LHalfOrders$Order;I)I" } : Jvm.MethodName)) ∈ mw_tbl := mwt_3 216 rfl rfl
set_option maxRecDepth 100000 in
theorem w781 : (Jvm.Cond.instanceMethod ({ cls := "HalfOrders$RowsOut", name := "lowSet", desc := "(LHalfOrders$Order;I)I" } : Jvm.MethodName)) ∈ mw_tbl := mwt_3 217 rfl rfl
set_option maxRecDepth 100000 in
theorem w782 : (Jvm.Cond.selects "HalfOrders$RowsOut" ({ cls := "HalfOrders$RowsOut", name := "lowSet", desc := "(LHalfOrders$Order;I)I" } : Jvm.MethodName) ({ cls := "HalfOrders$RowsOut", name := "lowSet", desc := "(LHalfOrders$Order;I)I" } : Jvm.MethodName)) ∈ mw_tbl := mwt_3 218 rfl rfl
set_option maxRecDepth 100000 in
theorem w783 : (Jvm.Cond.code ({ cls := "HalfOrders$RowsOut", name := "lowSet", desc := "(LHalfOrders$Order;I)I" } : Jvm.MethodName) prog_8_method_9_code (6 : Nat) (Option.some Jvm.ClassFile.FieldType.int)) ∈ mw_tbl := mwt_3 219 rfl rfl
set_option maxRecDepth 100000 in
theorem w788 : (Jvm.Cond.methodLink "HalfOrders" (218 : Nat) ({ cls := "HalfOrders$RowsOut", name := "hasRank", desc := "(LHalfOrders$Order;I)Z" } : Jvm.MethodName)) ∈ mw_tbl := mwt_3 224 rfl rfl
set_option maxRecDepth 100000 in
theorem w789 : (Jvm.Cond.instanceMethod ({ cls := "HalfOrders$RowsOut", name := "hasRank", desc := "(LHalfOrders$Order;I)Z" } : Jvm.MethodName)) ∈ mw_tbl := mwt_3 225 rfl rfl
set_option maxRecDepth 100000 in
theorem w790 : (Jvm.Cond.selects "HalfOrders$RowsOut" ({ cls := "HalfOrders$RowsOut", name := "hasRank", desc := "(LHalfOrders$Order;I)Z" } : Jvm.MethodName) ({ cls := "HalfOrders$RowsOut", name := "hasRank", desc := "(LHalfOrders$Order;I)Z" } : Jvm.MethodName)) ∈ mw_tbl := mwt_3 226 rfl rfl
set_option maxRecDepth 100000 in
theorem w791 : (Jvm.Cond.code ({ cls := "HalfOrders$RowsOut", name := "hasRank", desc := "(LHalfOrders$Order;I)Z" } : Jvm.MethodName) prog_8_method_7_code (3 : Nat) (Option.some Jvm.ClassFile.FieldType.boolean)) ∈ mw_tbl := mwt_3 227 rfl rfl
set_option maxRecDepth 100000 in
theorem w792 : (Jvm.Cond.methodLink "HalfOrders$RowsOut" (62 : Nat) ({ cls := "HalfOrders$RowsOut", name := "total", desc := "(LHalfOrders$Order;)I" } : Jvm.MethodName)) ∈ mw_tbl := mwt_3 228 rfl rfl
set_option maxRecDepth 100000 in
theorem w793 : (Jvm.Cond.methodLink "HalfOrders" (222 : Nat) ({ cls := "HalfOrders$RowsOut", name := "tellRow", desc := "(LHalfOrders$Order;ILHalfOrders$Line;)V" } : Jvm.MethodName)) ∈ mw_tbl := mwt_3 229 rfl rfl
set_option maxRecDepth 100000 in
theorem w794 : (Jvm.Cond.instanceMethod ({ cls := "HalfOrders$RowsOut", name := "tellRow", desc := "(LHalfOrders$Order;ILHalfOrders$Line;)V" } : Jvm.MethodName)) ∈ mw_tbl := mwt_3 230 rfl rfl
set_option maxRecDepth 100000 in
theorem w795 : (Jvm.Cond.selects "HalfOrders$RowsOut" ({ cls := "HalfOrders$RowsOut", name := "tellRow", desc := "(LHalfOrders$Order;ILHalfOrders$Line;)V" } : Jvm.MethodName) ({ cls := "HalfOrders$RowsOut", name := "tellRow", desc := "(LHalfOrders$Order;ILHalfOrders$Line;)V" } : Jvm.MethodName)) ∈ mw_tbl := mwt_3 231 rfl rfl
set_option maxRecDepth 100000 in
theorem w796 : (Jvm.Cond.code ({ cls := "HalfOrders$RowsOut", name := "tellRow", desc := "(LHalfOrders$Order;ILHalfOrders$Line;)V" } : Jvm.MethodName) prog_8_method_11_code (9 : Nat) (Option.none : Option Jvm.ClassFile.FieldType)) ∈ mw_tbl := mwt_3 232 rfl rfl
set_option maxRecDepth 100000 in
theorem w801 : (Jvm.Cond.methodLink "HalfOrders" (226 : Nat) ({ cls := "HalfOrders$RowsOut", name := "aheadCount", desc := "(LHalfOrders$Order;II)I" } : Jvm.MethodName)) ∈ mw_tbl := mwt_3 237 rfl rfl
set_option maxRecDepth 100000 in
theorem w802 : (Jvm.Cond.instanceMethod ({ cls := "HalfOrders$RowsOut", name := "aheadCount", desc := "(LHalfOrders$Order;II)I" } : Jvm.MethodName)) ∈ mw_tbl := mwt_3 238 rfl rfl
set_option maxRecDepth 100000 in
theorem w803 : (Jvm.Cond.selects "HalfOrders$RowsOut" ({ cls := "HalfOrders$RowsOut", name := "aheadCount", desc := "(LHalfOrders$Order;II)I" } : Jvm.MethodName) ({ cls := "HalfOrders$RowsOut", name := "aheadCount", desc := "(LHalfOrders$Order;II)I" } : Jvm.MethodName)) ∈ mw_tbl := mwt_3 239 rfl rfl
set_option maxRecDepth 100000 in
theorem w804 : (Jvm.Cond.code ({ cls := "HalfOrders$RowsOut", name := "aheadCount", desc := "(LHalfOrders$Order;II)I" } : Jvm.MethodName) prog_8_method_16_code (7 : Nat) (Option.some Jvm.ClassFile.FieldType.int)) ∈ mw_tbl := mwt_4 0 rfl rfl
set_option maxRecDepth 100000 in
theorem w805 : (Jvm.Cond.methodLink "HalfOrders$RowsOut" (94 : Nat) ({ cls := "HalfOrders$RowsOut", name := "waysThrough", desc := "(LHalfOrders$Order;II)I" } : Jvm.MethodName)) ∈ mw_tbl := mwt_4 1 rfl rfl
set_option maxRecDepth 100000 in
theorem w807 : (Jvm.Cond.instanceMethod ({ cls := "HalfOrders$RowsOut", name := "waysThrough", desc := "(LHalfOrders$Order;II)I" } : Jvm.MethodName)) ∈ mw_tbl := mwt_4 3 rfl rfl
set_option maxRecDepth 100000 in
theorem w808 : (Jvm.Cond.code ({ cls := "HalfOrders$RowsOut", name := "waysThrough", desc := "(LHalfOrders$Order;II)I" } : Jvm.MethodName) prog_8_method_18_code (4 : Nat) (Option.some Jvm.ClassFile.FieldType.int)) ∈ mw_tbl := mwt_4 4 rfl rfl
set_option maxRecDepth 100000 in
theorem w813 : (Jvm.Cond.constantLong "HalfOrders" (230 : Nat) (-1 : Int64)) ∈ mw_tbl := mwt_4 9 rfl rfl
set_option maxRecDepth 100000 in
theorem w814 : (Jvm.Cond.methodLink "HalfOrders" (232 : Nat) ({ cls := "HalfOrders$RowsOut", name := "placeSum", desc := "(LHalfOrders$Order;I)J" } : Jvm.MethodName)) ∈ mw_tbl := mwt_4 10 rfl rfl
set_option maxRecDepth 100000 in
theorem w815 : (Jvm.Cond.instanceMethod ({ cls := "HalfOrders$RowsOut", name := "placeSum", desc := "(LHalfOrders$Order;I)J" } : Jvm.MethodName)) ∈ mw_tbl := mwt_4 11 rfl rfl
set_option maxRecDepth 100000 in
theorem w816 : (Jvm.Cond.selects "HalfOrders$RowsOut" ({ cls := "HalfOrders$RowsOut", name := "placeSum", desc := "(LHalfOrders$Order;I)J" } : Jvm.MethodName) ({ cls := "HalfOrders$RowsOut", name := "placeSum", desc := "(LHalfOrders$Order;I)J" } : Jvm.MethodName)) ∈ mw_tbl := mwt_4 12 rfl rfl
set_option maxRecDepth 100000 in
theorem w817 : (Jvm.Cond.code ({ cls := "HalfOrders$RowsOut", name := "placeSum", desc := "(LHalfOrders$Order;I)J" } : Jvm.MethodName) prog_8_method_17_code (7 : Nat) (Option.some Jvm.ClassFile.FieldType.long)) ∈ mw_tbl := mwt_4 13 rfl rfl
set_option maxRecDepth 100000 in
theorem w818 : (Jvm.Cond.methodLink "HalfOrders$RowsOut" (98 : Nat) ({ cls := "java/lang/Integer", name := "bitCount", desc := "(I)I" } : Jvm.MethodName)) ∈ mw_tbl := mwt_4 14 rfl rfl
set_option maxRecDepth 100000 in
theorem w823 : (Jvm.Cond.methodLink "HalfOrders" (236 : Nat) ({ cls := "HalfOrders$RowsOut", name := "firstFair", desc := "(LHalfOrders$Order;)I" } : Jvm.MethodName)) ∈ mw_tbl := mwt_4 19 rfl rfl
set_option maxRecDepth 100000 in
theorem w824 : (Jvm.Cond.instanceMethod ({ cls := "HalfOrders$RowsOut", name := "firstFair", desc := "(LHalfOrders$Order;)I" } : Jvm.MethodName)) ∈ mw_tbl := mwt_4 20 rfl rfl
set_option maxRecDepth 100000 in
theorem w825 : (Jvm.Cond.selects "HalfOrders$RowsOut" ({ cls := "HalfOrders$RowsOut", name := "firstFair", desc := "(LHalfOrders$Order;)I" } : Jvm.MethodName) ({ cls := "HalfOrders$RowsOut", name := "firstFair", desc := "(LHalfOrders$Order;)I" } : Jvm.MethodName)) ∈ mw_tbl := mwt_4 21 rfl rfl
set_option maxRecDepth 100000 in
theorem w826 : (Jvm.Cond.code ({ cls := "HalfOrders$RowsOut", name := "firstFair", desc := "(LHalfOrders$Order;)I" } : Jvm.MethodName) prog_8_method_19_code (6 : Nat) (Option.some Jvm.ClassFile.FieldType.int)) ∈ mw_tbl := mwt_4 22 rfl rfl
set_option maxRecDepth 100000 in
theorem w827 : (Jvm.Cond.methodLink "HalfOrders$RowsOut" (103 : Nat) ({ cls := "HalfOrders$Order", name := "areUnordered", desc := "(II)Z" } : Jvm.MethodName)) ∈ mw_tbl := mwt_4 23 rfl rfl
set_option maxRecDepth 100000 in
theorem w828 : (Jvm.Cond.methodLink "HalfOrders$RowsOut" (106 : Nat) ({ cls := "HalfOrders$RowsOut", name := "aheadCount", desc := "(LHalfOrders$Order;II)I" } : Jvm.MethodName)) ∈ mw_tbl := mwt_4 24 rfl rfl
set_option maxRecDepth 100000 in
theorem w833 : (Jvm.Cond.methodLink "HalfOrders" (242 : Nat) ({ cls := "HalfOrders$Search", name := "turnFirstRow", desc := "(LHalfOrders$Order;LHalfOrders$Line;)V" } : Jvm.MethodName)) ∈ mw_tbl := mwt_4 29 rfl rfl
set_option maxRecDepth 100000 in
theorem w834 : (Jvm.Cond.instanceMethod ({ cls := "HalfOrders$Search", name := "turnFirstRow", desc := "(LHalfOrders$Order;LHalfOrders$Line;)V" } : Jvm.MethodName)) ∈ mw_tbl := mwt_4 30 rfl rfl
set_option maxRecDepth 100000 in
theorem w835 : (Jvm.Cond.selects "HalfOrders$Search" ({ cls := "HalfOrders$Search", name := "turnFirstRow", desc := "(LHalfOrders$Order;LHalfOrders$Line;)V" } : Jvm.MethodName) ({ cls := "HalfOrders$Search", name := "turnFirstRow", desc := "(LHalfOrders$Order;LHalfOrders$Line;)V" } : Jvm.MethodName)) ∈ mw_tbl := mwt_4 31 rfl rfl
set_option maxRecDepth 100000 in
theorem w836 : (Jvm.Cond.code ({ cls := "HalfOrders$Search", name := "turnFirstRow", desc := "(LHalfOrders$Order;LHalfOrders$Line;)V" } : Jvm.MethodName) prog_9_method_7_code (4 : Nat) (Option.none : Option Jvm.ClassFile.FieldType)) ∈ mw_tbl := mwt_4 32 rfl rfl
set_option maxRecDepth 100000 in
theorem w837 : (Jvm.Cond.methodLink "HalfOrders$Search" (98 : Nat) ({ cls := "HalfOrders$Search", name := "placeInSecond", desc := "(LHalfOrders$Order;I)I" } : Jvm.MethodName)) ∈ mw_tbl := mwt_4 33 rfl rfl
set_option maxRecDepth 100000 in
theorem w839 : (Jvm.Cond.instanceMethod ({ cls := "HalfOrders$Search", name := "placeInSecond", desc := "(LHalfOrders$Order;I)I" } : Jvm.MethodName)) ∈ mw_tbl := mwt_4 35 rfl rfl
set_option maxRecDepth 100000 in
theorem w840 : (Jvm.Cond.code ({ cls := "HalfOrders$Search", name := "placeInSecond", desc := "(LHalfOrders$Order;I)I" } : Jvm.MethodName) prog_9_method_8_code (5 : Nat) (Option.some Jvm.ClassFile.FieldType.int)) ∈ mw_tbl := mwt_4 36 rfl rfl
set_option maxRecDepth 100000 in
theorem w841 : (Jvm.Cond.methodLink "HalfOrders$Search" (102 : Nat) ({ cls := "HalfOrders$Line", name := "placeOf", desc := "(I)I" } : Jvm.MethodName)) ∈ mw_tbl := mwt_4 37 rfl rfl
set_option maxRecDepth 100000 in
theorem w842 : (Jvm.Cond.instanceMethod ({ cls := "HalfOrders$Line", name := "placeOf", desc := "(I)I" } : Jvm.MethodName)) ∈ mw_tbl := mwt_4 38 rfl rfl
set_option maxRecDepth 100000 in
theorem w843 : (Jvm.Cond.selects "HalfOrders$Line" ({ cls := "HalfOrders$Line", name := "placeOf", desc := "(I)I" } : Jvm.MethodName) ({ cls := "HalfOrders$Line", name := "placeOf", desc := "(I)I" } : Jvm.MethodName)) ∈ mw_tbl := mwt_4 39 rfl rfl
set_option maxRecDepth 100000 in
theorem w844 : (Jvm.Cond.code ({ cls := "HalfOrders$Line", name := "placeOf", desc := "(I)I" } : Jvm.MethodName) prog_5_method_6_code (3 : Nat) (Option.some Jvm.ClassFile.FieldType.int)) ∈ mw_tbl := mwt_4 40 rfl rfl
set_option maxRecDepth 100000 in
theorem w845 : (Jvm.Cond.methodLink "HalfOrders$Search" (108 : Nat) ({ cls := "HalfOrders$Line", name := "at", desc := "(I)I" } : Jvm.MethodName)) ∈ mw_tbl := mwt_4 41 rfl rfl
set_option maxRecDepth 100000 in
theorem w846 : (Jvm.Cond.methodLink "HalfOrders$Search" (111 : Nat) ({ cls := "HalfOrders$Order", name := "areUnordered", desc := "(II)Z" } : Jvm.MethodName)) ∈ mw_tbl := mwt_4 42 rfl rfl
set_option maxRecDepth 100000 in
theorem w847 : (Jvm.Cond.methodLink "HalfOrders$Search" (115 : Nat) ({ cls := "java/lang/Math", name := "min", desc := "(II)I" } : Jvm.MethodName)) ∈ mw_tbl := mwt_4 43 rfl rfl
set_option maxRecDepth 100000 in
theorem w852 : (Jvm.Cond.constant "HalfOrders" (245 : Nat) (-1000000 : Int32)) ∈ mw_tbl := mwt_4 48 rfl rfl
set_option maxRecDepth 100000 in
theorem w853 : (Jvm.Cond.methodLink "HalfOrders" (246 : Nat) ({ cls := "HalfOrders$Bounds", name := "inverse", desc := "(LHalfOrders$Order;II)I" } : Jvm.MethodName)) ∈ mw_tbl := mwt_4 49 rfl rfl
set_option maxRecDepth 100000 in
theorem w854 : (Jvm.Cond.instanceMethod ({ cls := "HalfOrders$Bounds", name := "inverse", desc := "(LHalfOrders$Order;II)I" } : Jvm.MethodName)) ∈ mw_tbl := mwt_4 50 rfl rfl
set_option maxRecDepth 100000 in
theorem w855 : (Jvm.Cond.selects "HalfOrders$Bounds" ({ cls := "HalfOrders$Bounds", name := "inverse", desc := "(LHalfOrders$Order;II)I" } : Jvm.MethodName) ({ cls := "HalfOrders$Bounds", name := "inverse", desc := "(LHalfOrders$Order;II)I" } : Jvm.MethodName)) ∈ mw_tbl := mwt_4 51 rfl rfl
set_option maxRecDepth 100000 in
theorem w856 : (Jvm.Cond.code ({ cls := "HalfOrders$Bounds", name := "inverse", desc := "(LHalfOrders$Order;II)I" } : Jvm.MethodName) prog_3_method_5_code (6 : Nat) (Option.some Jvm.ClassFile.FieldType.int)) ∈ mw_tbl := mwt_4 52 rfl rfl
set_option maxRecDepth 100000 in
theorem w857 : (Jvm.Cond.methodLink "HalfOrders$Bounds" (41 : Nat) ({ cls := "java/lang/Integer", name := "bitCount", desc := "(I)I" } : Jvm.MethodName)) ∈ mw_tbl := mwt_4 53 rfl rfl
set_option maxRecDepth 100000 in
theorem w858 : (Jvm.Cond.methodLink "HalfOrders$Bounds" (47 : Nat) ({ cls := "HalfOrders$Bounds", name := "inverseFromLower", desc := "(LHalfOrders$Order;II)I" } : Jvm.MethodName)) ∈ mw_tbl := mwt_4 54 rfl rfl
set_option maxRecDepth 100000 in
theorem w860 : (Jvm.Cond.instanceMethod ({ cls := "HalfOrders$Bounds", name := "inverseFromLower", desc := "(LHalfOrders$Order;II)I" } : Jvm.MethodName)) ∈ mw_tbl := mwt_4 56 rfl rfl
set_option maxRecDepth 100000 in
theorem w861 : (Jvm.Cond.code ({ cls := "HalfOrders$Bounds", name := "inverseFromLower", desc := "(LHalfOrders$Order;II)I" } : Jvm.MethodName) prog_3_method_6_code (6 : Nat) (Option.some Jvm.ClassFile.FieldType.int)) ∈ mw_tbl := mwt_4 57 rfl rfl
set_option maxRecDepth 100000 in
theorem w862 : (Jvm.Cond.methodLink "HalfOrders$Bounds" (51 : Nat) ({ cls := "HalfOrders$Order", name := "isBelow", desc := "(II)Z" } : Jvm.MethodName)) ∈ mw_tbl := mwt_4 58 rfl rfl
set_option maxRecDepth 100000 in
theorem w867 : (Jvm.Cond.methodLink "HalfOrders" (249 : Nat) ({ cls := "HalfOrders$Order", name := "leastAbove", desc := "(II)I" } : Jvm.MethodName)) ∈ mw_tbl := mwt_4 63 rfl rfl
set_option maxRecDepth 100000 in
theorem w868 : (Jvm.Cond.methodLink "HalfOrders" (253 : Nat) ({ cls := "HalfOrders$Order", name := "greatestUnder", desc := "(II)I" } : Jvm.MethodName)) ∈ mw_tbl := mwt_4 64 rfl rfl
set_option maxRecDepth 100000 in
theorem w881 : (Jvm.Cond.methodLink "HalfOrders" (256 : Nat) ({ cls := "HalfOrders$Search", name := "imageOf", desc := "(LHalfOrders$Order;LHalfOrders$Order;I)I" } : Jvm.MethodName)) ∈ mw_tbl := mwt_4 77 rfl rfl
set_option maxRecDepth 100000 in
theorem w882 : (Jvm.Cond.instanceMethod ({ cls := "HalfOrders$Search", name := "imageOf", desc := "(LHalfOrders$Order;LHalfOrders$Order;I)I" } : Jvm.MethodName)) ∈ mw_tbl := mwt_4 78 rfl rfl
set_option maxRecDepth 100000 in
theorem w883 : (Jvm.Cond.selects "HalfOrders$Search" ({ cls := "HalfOrders$Search", name := "imageOf", desc := "(LHalfOrders$Order;LHalfOrders$Order;I)I" } : Jvm.MethodName) ({ cls := "HalfOrders$Search", name := "imageOf", desc := "(LHalfOrders$Order;LHalfOrders$Order;I)I" } : Jvm.MethodName)) ∈ mw_tbl := mwt_4 79 rfl rfl
set_option maxRecDepth 100000 in
theorem w884 : (Jvm.Cond.code ({ cls := "HalfOrders$Search", name := "imageOf", desc := "(LHalfOrders$Order;LHalfOrders$Order;I)I" } : Jvm.MethodName) prog_9_method_9_code (4 : Nat) (Option.some Jvm.ClassFile.FieldType.int)) ∈ mw_tbl := mwt_4 80 rfl rfl
set_option maxRecDepth 100000 in
theorem w885 : (Jvm.Cond.methodLink "HalfOrders$Search" (118 : Nat) ({ cls := "HalfOrders$Search", name := "giveMarks", desc := "(LHalfOrders$Order;[I)V" } : Jvm.MethodName)) ∈ mw_tbl := mwt_4 81 rfl rfl
set_option maxRecDepth 100000 in
theorem w887 : (Jvm.Cond.instanceMethod ({ cls := "HalfOrders$Search", name := "giveMarks", desc := "(LHalfOrders$Order;[I)V" } : Jvm.MethodName)) ∈ mw_tbl := mwt_4 83 rfl rfl
set_option maxRecDepth 100000 in
theorem w888 : (Jvm.Cond.code ({ cls := "HalfOrders$Search", name := "giveMarks", desc := "(LHalfOrders$Order;[I)V" } : Jvm.MethodName) prog_9_method_10_code (5 : Nat) (Option.none : Option Jvm.ClassFile.FieldType)) ∈ mw_tbl := mwt_4 84 rfl rfl
set_option maxRecDepth 100000 in
theorem w889 : (Jvm.Cond.methodLink "HalfOrders$Search" (130 : Nat) ({ cls := "HalfOrders$Search", name := "sumOfMarks", desc := "(I[I)I" } : Jvm.MethodName)) ∈ mw_tbl := mwt_4 85 rfl rfl
set_option maxRecDepth 100000 in
theorem w890 : (Jvm.Cond.static ({ cls := "HalfOrders$Search", name := "sumOfMarks", desc := "(I[I)I" } : Jvm.MethodName)) ∈ mw_tbl := mwt_4 86 rfl rfl
set_option maxRecDepth 100000 in
theorem w891 : (Jvm.Cond.code ({ cls := "HalfOrders$Search", name := "sumOfMarks", desc := "(I[I)I" } : Jvm.MethodName) prog_9_method_11_code (4 : Nat) (Option.some Jvm.ClassFile.FieldType.int)) ∈ mw_tbl := mwt_4 87 rfl rfl
set_option maxRecDepth 100000 in
theorem w892 : (Jvm.Cond.methodLink "HalfOrders$Search" (122 : Nat) ({ cls := "HalfOrders$Search", name := "haveLikeMarks", desc := "(I)Z" } : Jvm.MethodName)) ∈ mw_tbl := mwt_4 88 rfl rfl
set_option maxRecDepth 100000 in
theorem w894 : (Jvm.Cond.instanceMethod ({ cls := "HalfOrders$Search", name := "haveLikeMarks", desc := "(I)Z" } : Jvm.MethodName)) ∈ mw_tbl := mwt_4 90 rfl rfl
set_option maxRecDepth 100000 in
theorem w895 : (Jvm.Cond.code ({ cls := "HalfOrders$Search", name := "haveLikeMarks", desc := "(I)Z" } : Jvm.MethodName) prog_9_method_12_code (6 : Nat) (Option.some Jvm.ClassFile.FieldType.boolean)) ∈ mw_tbl := mwt_4 91 rfl rfl
set_option maxRecDepth 100000 in
theorem w896 : (Jvm.Cond.methodLink "HalfOrders$Search" (126 : Nat) ({ cls := "HalfOrders$Search", name := "growMap", desc := "(LHalfOrders$Order;LHalfOrders$Order;II)Z" } : Jvm.MethodName)) ∈ mw_tbl := mwt_4 92 rfl rfl
set_option maxRecDepth 100000 in
theorem w898 : (Jvm.Cond.instanceMethod ({ cls := "HalfOrders$Search", name := "growMap", desc := "(LHalfOrders$Order;LHalfOrders$Order;II)Z" } : Jvm.MethodName)) ∈ mw_tbl := mwt_4 94 rfl rfl
set_option maxRecDepth 100000 in
theorem w899 : (Jvm.Cond.code ({ cls := "HalfOrders$Search", name := "growMap", desc := "(LHalfOrders$Order;LHalfOrders$Order;II)Z" } : Jvm.MethodName) prog_9_method_13_code (6 : Nat) (Option.some Jvm.ClassFile.FieldType.boolean)) ∈ mw_tbl := mwt_4 95 rfl rfl
set_option maxRecDepth 100000 in
theorem w900 : (Jvm.Cond.methodLink "HalfOrders$Search" (134 : Nat) ({ cls := "HalfOrders$Search", name := "canBe", desc := "(LHalfOrders$Order;LHalfOrders$Order;II)Z" } : Jvm.MethodName)) ∈ mw_tbl := mwt_4 96 rfl rfl
set_option maxRecDepth 100000 in
theorem w902 : (Jvm.Cond.instanceMethod ({ cls := "HalfOrders$Search", name := "canBe", desc := "(LHalfOrders$Order;LHalfOrders$Order;II)Z" } : Jvm.MethodName)) ∈ mw_tbl := mwt_4 98 rfl rfl
set_option maxRecDepth 100000 in
theorem w903 : (Jvm.Cond.code ({ cls := "HalfOrders$Search", name := "canBe", desc := "(LHalfOrders$Order;LHalfOrders$Order;II)Z" } : Jvm.MethodName) prog_9_method_14_code (6 : Nat) (Option.some Jvm.ClassFile.FieldType.boolean)) ∈ mw_tbl := mwt_4 99 rfl rfl
set_option maxRecDepth 100000 in
theorem w904 : (Jvm.Cond.methodLink "HalfOrders$Search" (137 : Nat) ({ cls := "HalfOrders$Order", name := "isBelow", desc := "(II)Z" } : Jvm.MethodName)) ∈ mw_tbl := mwt_4 100 rfl rfl
set_option maxRecDepth 100000 in
theorem w909 : (Jvm.Cond.methodLink "HalfOrders" (260 : Nat) ({ cls := "HalfOrders$Line", name := "has", desc := "(I)Z" } : Jvm.MethodName)) ∈ mw_tbl := mwt_4 105 rfl rfl
set_option maxRecDepth 100000 in
theorem w910 : (Jvm.Cond.instanceMethod ({ cls := "HalfOrders$Line", name := "has", desc := "(I)Z" } : Jvm.MethodName)) ∈ mw_tbl := mwt_4 106 rfl rfl
set_option maxRecDepth 100000 in
theorem w911 : (Jvm.Cond.selects "HalfOrders$Line" ({ cls := "HalfOrders$Line", name := "has", desc := "(I)Z" } : Jvm.MethodName) ({ cls := "HalfOrders$Line", name := "has", desc := "(I)Z" } : Jvm.MethodName)) ∈ mw_tbl := mwt_4 107 rfl rfl
set_option maxRecDepth 100000 in
theorem w912 : (Jvm.Cond.code ({ cls := "HalfOrders$Line", name := "has", desc := "(I)Z" } : Jvm.MethodName) prog_5_method_7_code (2 : Nat) (Option.some Jvm.ClassFile.FieldType.boolean)) ∈ mw_tbl := mwt_4 108 rfl rfl
set_option maxRecDepth 100000 in
theorem w913 : (Jvm.Cond.methodLink "HalfOrders$Line" (25 : Nat) ({ cls := "HalfOrders$Line", name := "placeOf", desc := "(I)I" } : Jvm.MethodName)) ∈ mw_tbl := mwt_4 109 rfl rfl
set_option maxRecDepth 100000 in
theorem w922 : (Jvm.Cond.methodLink "HalfOrders" (266 : Nat) ({ cls := "HalfOrders$RowsOut", name := "isRowOut", desc := "(LHalfOrders$Order;LHalfOrders$Line;)Z" } : Jvm.MethodName)) ∈ mw_tbl := mwt_4 118 rfl rfl
set_option maxRecDepth 100000 in
theorem w923 : (Jvm.Cond.instanceMethod ({ cls := "HalfOrders$RowsOut", name := "isRowOut", desc := "(LHalfOrders$Order;LHalfOrders$Line;)Z" } : Jvm.MethodName)) ∈ mw_tbl := mwt_4 119 rfl rfl
set_option maxRecDepth 100000 in
theorem w924 : (Jvm.Cond.selects "HalfOrders$RowsOut" ({ cls := "HalfOrders$RowsOut", name := "isRowOut", desc := "(LHalfOrders$Order;LHalfOrders$Line;)Z" } : Jvm.MethodName) ({ cls := "HalfOrders$RowsOut", name := "isRowOut", desc := "(LHalfOrders$Order;LHalfOrders$Line;)Z" } : Jvm.MethodName)) ∈ mw_tbl := mwt_4 120 rfl rfl
set_option maxRecDepth 100000 in
theorem w925 : (Jvm.Cond.code ({ cls := "HalfOrders$RowsOut", name := "isRowOut", desc := "(LHalfOrders$Order;LHalfOrders$Line;)Z" } : Jvm.MethodName) prog_8_method_14_code (3 : Nat) (Option.some Jvm.ClassFile.FieldType.boolean)) ∈ mw_tbl := mwt_4 121 rfl rfl
set_option maxRecDepth 100000 in
theorem w926 : (Jvm.Cond.methodLink "HalfOrders$RowsOut" (86 : Nat) ({ cls := "HalfOrders$RowsOut", name := "firstLack", desc := "(LHalfOrders$Order;LHalfOrders$Line;)I" } : Jvm.MethodName)) ∈ mw_tbl := mwt_4 122 rfl rfl
set_option maxRecDepth 100000 in
theorem w927 : (Jvm.Cond.instanceMethod ({ cls := "HalfOrders$RowsOut", name := "firstLack", desc := "(LHalfOrders$Order;LHalfOrders$Line;)I" } : Jvm.MethodName)) ∈ mw_tbl := mwt_4 123 rfl rfl
set_option maxRecDepth 100000 in
theorem w928 : (Jvm.Cond.selects "HalfOrders$RowsOut" ({ cls := "HalfOrders$RowsOut", name := "firstLack", desc := "(LHalfOrders$Order;LHalfOrders$Line;)I" } : Jvm.MethodName) ({ cls := "HalfOrders$RowsOut", name := "firstLack", desc := "(LHalfOrders$Order;LHalfOrders$Line;)I" } : Jvm.MethodName)) ∈ mw_tbl := mwt_4 124 rfl rfl
set_option maxRecDepth 100000 in
theorem w929 : (Jvm.Cond.code ({ cls := "HalfOrders$RowsOut", name := "firstLack", desc := "(LHalfOrders$Order;LHalfOrders$Line;)I" } : Jvm.MethodName) prog_8_method_13_code (6 : Nat) (Option.some Jvm.ClassFile.FieldType.int)) ∈ mw_tbl := mwt_4 125 rfl rfl
set_option maxRecDepth 100000 in
theorem w930 : (Jvm.Cond.methodLink "HalfOrders$RowsOut" (78 : Nat) ({ cls := "HalfOrders$Line", name := "at", desc := "(I)I" } : Jvm.MethodName)) ∈ mw_tbl := mwt_4 126 rfl rfl
set_option maxRecDepth 100000 in
theorem w931 : (Jvm.Cond.methodLink "HalfOrders$RowsOut" (82 : Nat) ({ cls := "HalfOrders$Order", name := "hasThing", desc := "(I)Z" } : Jvm.MethodName)) ∈ mw_tbl := mwt_4 127 rfl rfl
set_option maxRecDepth 100000 in
theorem w932 : (Jvm.Cond.methodLink "HalfOrders" (270 : Nat) ({ cls := "HalfOrders$RowsOut", name := "rankOf", desc := "(LHalfOrders$Order;LHalfOrders$Line;)I" } : Jvm.MethodName)) ∈ mw_tbl := mwt_4 128 rfl rfl
set_option maxRecDepth 100000 in
theorem w933 : (Jvm.Cond.instanceMethod ({ cls := "HalfOrders$RowsOut", name := "rankOf", desc := "(LHalfOrders$Order;LHalfOrders$Line;)I" } : Jvm.MethodName)) ∈ mw_tbl := mwt_4 129 rfl rfl
set_option maxRecDepth 100000 in
theorem w934 : (Jvm.Cond.selects "HalfOrders$RowsOut" ({ cls := "HalfOrders$RowsOut", name := "rankOf", desc := "(LHalfOrders$Order;LHalfOrders$Line;)I" } : Jvm.MethodName) ({ cls := "HalfOrders$RowsOut", name := "rankOf", desc := "(LHalfOrders$Order;LHalfOrders$Line;)I" } : Jvm.MethodName)) ∈ mw_tbl := mwt_4 130 rfl rfl
set_option maxRecDepth 100000 in
theorem w935 : (Jvm.Cond.code ({ cls := "HalfOrders$RowsOut", name := "rankOf", desc := "(LHalfOrders$Order;LHalfOrders$Line;)I" } : Jvm.MethodName) prog_8_method_12_code (8 : Nat) (Option.some Jvm.ClassFile.FieldType.int)) ∈ mw_tbl := mwt_4 131 rfl rfl
set_option maxRecDepth 100000 in
theorem w936 : (Jvm.Cond.methodLink "HalfOrders" (274 : Nat) ({ cls := "HalfOrders$RowsOut", name := "jumpsOf", desc := "(LHalfOrders$Order;LHalfOrders$Line;)I" } : Jvm.MethodName)) ∈ mw_tbl := mwt_4 132 rfl rfl
set_option maxRecDepth 100000 in
theorem w937 : (Jvm.Cond.instanceMethod ({ cls := "HalfOrders$RowsOut", name := "jumpsOf", desc := "(LHalfOrders$Order;LHalfOrders$Line;)I" } : Jvm.MethodName)) ∈ mw_tbl := mwt_4 133 rfl rfl
set_option maxRecDepth 100000 in
theorem w938 : (Jvm.Cond.selects "HalfOrders$RowsOut" ({ cls := "HalfOrders$RowsOut", name := "jumpsOf", desc := "(LHalfOrders$Order;LHalfOrders$Line;)I" } : Jvm.MethodName) ({ cls := "HalfOrders$RowsOut", name := "jumpsOf", desc := "(LHalfOrders$Order;LHalfOrders$Line;)I" } : Jvm.MethodName)) ∈ mw_tbl := mwt_4 134 rfl rfl
set_option maxRecDepth 100000 in
theorem w939 : (Jvm.Cond.code ({ cls := "HalfOrders$RowsOut", name := "jumpsOf", desc := "(LHalfOrders$Order;LHalfOrders$Line;)I" } : Jvm.MethodName) prog_8_method_15_code (5 : Nat) (Option.some Jvm.ClassFile.FieldType.int)) ∈ mw_tbl := mwt_4 135 rfl rfl
set_option maxRecDepth 100000 in
theorem w940 : (Jvm.Cond.methodLink "HalfOrders$RowsOut" (90 : Nat) ({ cls := "HalfOrders$Order", name := "isBelow", desc := "(II)Z" } : Jvm.MethodName)) ∈ mw_tbl := mwt_4 136 rfl rfl
set_option maxRecDepth 100000 in
theorem w941 : (Jvm.Cond.methodLink "HalfOrders" (277 : Nat) ({ cls := "HalfOrders$RowsOut", name := "firstLack", desc := "(LHalfOrders$Order;LHalfOrders$Line;)I" } : Jvm.MethodName)) ∈ mw_tbl := mwt_4 137 rfl rfl
set_option maxRecDepth 100000 in
theorem w946 : (Jvm.Cond.methodLink "HalfOrders" (280 : Nat) ({ cls := "HalfOrders$Line", name := "placeOf", desc := "(I)I" } : Jvm.MethodName)) ∈ mw_tbl := mwt_4 142 rfl rfl
set_option maxRecDepth 100000 in
theorem w951 : (Jvm.Cond.methodLink "HalfOrders" (283 : Nat) ({ cls := "HalfOrders$Order", name := "lookAct", desc := "(ILHalfOrders$Line;)I" } : Jvm.MethodName)) ∈ mw_tbl := mwt_4 147 rfl rfl
set_option maxRecDepth 100000 in
theorem w952 : (Jvm.Cond.instanceMethod ({ cls := "HalfOrders$Order", name := "lookAct", desc := "(ILHalfOrders$Line;)I" } : Jvm.MethodName)) ∈ mw_tbl := mwt_4 148 rfl rfl
set_option maxRecDepth 100000 in
theorem w953 : (Jvm.Cond.selects "HalfOrders$Order" ({ cls := "HalfOrders$Order", name := "lookAct", desc := "(ILHalfOrders$Line;)I" } : Jvm.MethodName) ({ cls := "HalfOrders$Order", name := "lookAct", desc := "(ILHalfOrders$Line;)I" } : Jvm.MethodName)) ∈ mw_tbl := mwt_4 149 rfl rfl
set_option maxRecDepth 100000 in
theorem w954 : (Jvm.Cond.sameMethod "HalfOrders$Order" "HalfOrders$Order" "lookAct" "(ILHalfOrders$Line;)I") ∈ mw_tbl := mwt_4 150 rfl rfl
set_option maxRecDepth 100000 in
theorem w955 : (Jvm.Cond.selects "HalfOrders$Beside" ({ cls := "HalfOrders$Order", name := "lookAct", desc := "(ILHalfOrders$Line;)I" } : Jvm.MethodName) ({ cls := "HalfOrders$Stack", name := "lookAct", desc := "(ILHalfOrders$Line;)I" } : Jvm.MethodName)) ∈ mw_tbl := mwt_4 151 rfl rfl
set_option maxRecDepth 100000 in
theorem w956 : (Jvm.Cond.instanceMethod ({ cls := "HalfOrders$Stack", name := "lookAct", desc := "(ILHalfOrders$Line;)I" } : Jvm.MethodName)) ∈ mw_tbl := mwt_4 152 rfl rfl
set_option maxRecDepth 100000 in
theorem w957 : (Jvm.Cond.code ({ cls := "HalfOrders$Stack", name := "lookAct", desc := "(ILHalfOrders$Line;)I" } : Jvm.MethodName) prog_11_method_3_code (3 : Nat) (Option.some Jvm.ClassFile.FieldType.int)) ∈ mw_tbl := mwt_4 153 rfl rfl
set_option maxRecDepth 100000 in
theorem w958 : (Jvm.Cond.methodLink "HalfOrders$Stack" (7 : Nat) ({ cls := "HalfOrders$Line", name := "add", desc := "(I)V" } : Jvm.MethodName)) ∈ mw_tbl := mwt_4 154 rfl rfl
set_option maxRecDepth 100000 in
theorem w959 : (Jvm.Cond.methodLink "HalfOrders$Stack" (13 : Nat) ({ cls := "HalfOrders$Order", name := "lookAct", desc := "(ILHalfOrders$Line;)I" } : Jvm.MethodName)) ∈ mw_tbl := mwt_4 155 rfl rfl
set_option maxRecDepth 100000 in
theorem w960 : (Jvm.Cond.selects "HalfOrders$Held" ({ cls := "HalfOrders$Order", name := "lookAct", desc := "(ILHalfOrders$Line;)I" } : Jvm.MethodName) ({ cls := "HalfOrders$Held", name := "lookAct", desc := "(ILHalfOrders$Line;)I" } : Jvm.MethodName)) ∈ mw_tbl := mwt_4 156 rfl rfl
set_option maxRecDepth 100000 in
theorem w961 : (Jvm.Cond.instanceMethod ({ cls := "HalfOrders$Held", name := "lookAct", desc := "(ILHalfOrders$Line;)I" } : Jvm.MethodName)) ∈ mw_tbl := mwt_4 157 rfl rfl
set_option maxRecDepth 100000 in
theorem w962 : (Jvm.Cond.code ({ cls := "HalfOrders$Held", name := "lookAct", desc := "(ILHalfOrders$Line;)I" } : Jvm.MethodName) prog_4_method_3_code (3 : Nat) (Option.some Jvm.ClassFile.FieldType.int)) ∈ mw_tbl := mwt_4 158 rfl rfl
set_option maxRecDepth 100000 in
theorem w963 : (Jvm.Cond.methodLink "HalfOrders$Held" (7 : Nat) ({ cls := "HalfOrders$Line", name := "add", desc := "(I)V" } : Jvm.MethodName)) ∈ mw_tbl := mwt_4 159 rfl rfl
set_option maxRecDepth 100000 in
theorem w964 : (Jvm.Cond.methodLink "HalfOrders$Held" (19 : Nat) ({ cls := "HalfOrders$Order", name := "lookAct", desc := "(ILHalfOrders$Line;)I" } : Jvm.MethodName)) ∈ mw_tbl := mwt_4 160 rfl rfl
set_option maxRecDepth 100000 in
theorem w965 : (Jvm.Cond.selects "HalfOrders$Row" ({ cls := "HalfOrders$Order", name := "lookAct", desc := "(ILHalfOrders$Line;)I" } : Jvm.MethodName) ({ cls := "HalfOrders$Row", name := "lookAct", desc := "(ILHalfOrders$Line;)I" } : Jvm.MethodName)) ∈ mw_tbl := mwt_4 161 rfl rfl
set_option maxRecDepth 100000 in
theorem w966 : (Jvm.Cond.instanceMethod ({ cls := "HalfOrders$Row", name := "lookAct", desc := "(ILHalfOrders$Line;)I" } : Jvm.MethodName)) ∈ mw_tbl := mwt_4 162 rfl rfl
set_option maxRecDepth 100000 in
theorem w967 : (Jvm.Cond.code ({ cls := "HalfOrders$Row", name := "lookAct", desc := "(ILHalfOrders$Line;)I" } : Jvm.MethodName) prog_7_method_4_code (3 : Nat) (Option.some Jvm.ClassFile.FieldType.int)) ∈ mw_tbl := mwt_4 163 rfl rfl
set_option maxRecDepth 100000 in
theorem w968 : (Jvm.Cond.methodLink "HalfOrders$Row" (7 : Nat) ({ cls := "HalfOrders$Line", name := "add", desc := "(I)V" } : Jvm.MethodName)) ∈ mw_tbl := mwt_4 164 rfl rfl
set_option maxRecDepth 100000 in
theorem w969 : (Jvm.Cond.methodLink "HalfOrders$Row" (17 : Nat) ({ cls := "HalfOrders$Stack", name := "lookAct", desc := "(ILHalfOrders$Line;)I" } : Jvm.MethodName)) ∈ mw_tbl := mwt_4 165 rfl rfl
set_option maxRecDepth 100000 in
theorem w970 : (Jvm.Cond.selects "HalfOrders$Stack" ({ cls := "HalfOrders$Order", name := "lookAct", desc := "(ILHalfOrders$Line;)I" } : Jvm.MethodName) ({ cls := "HalfOrders$Stack", name := "lookAct", desc := "(ILHalfOrders$Line;)I" } : Jvm.MethodName)) ∈ mw_tbl := mwt_4 166 rfl rfl
set_option maxRecDepth 100000 in
theorem w971 : (Jvm.Cond.selects "HalfOrders$Times" ({ cls := "HalfOrders$Order", name := "lookAct", desc := "(ILHalfOrders$Line;)I" } : Jvm.MethodName) ({ cls := "HalfOrders$Stack", name := "lookAct", desc := "(ILHalfOrders$Line;)I" } : Jvm.MethodName)) ∈ mw_tbl := mwt_4 167 rfl rfl
set_option maxRecDepth 100000 in
theorem w972 : (Jvm.Cond.code ({ cls := "HalfOrders$Order", name := "lookAct", desc := "(ILHalfOrders$Line;)I" } : Jvm.MethodName) prog_6_method_3_code (3 : Nat) (Option.some Jvm.ClassFile.FieldType.int)) ∈ mw_tbl := mwt_4 168 rfl rfl
set_option maxRecDepth 100000 in
theorem w973 : (Jvm.Cond.methodLink "HalfOrders" (287 : Nat) ({ cls := "HalfOrders$Order", name := "partAct", desc := "(ILHalfOrders$Line;)I" } : Jvm.MethodName)) ∈ mw_tbl := mwt_4 169 rfl rfl
set_option maxRecDepth 100000 in
theorem w974 : (Jvm.Cond.instanceMethod ({ cls := "HalfOrders$Order", name := "partAct", desc := "(ILHalfOrders$Line;)I" } : Jvm.MethodName)) ∈ mw_tbl := mwt_4 170 rfl rfl
set_option maxRecDepth 100000 in
theorem w975 : (Jvm.Cond.selects "HalfOrders$Order" ({ cls := "HalfOrders$Order", name := "partAct", desc := "(ILHalfOrders$Line;)I" } : Jvm.MethodName) ({ cls := "HalfOrders$Order", name := "partAct", desc := "(ILHalfOrders$Line;)I" } : Jvm.MethodName)) ∈ mw_tbl := mwt_4 171 rfl rfl
set_option maxRecDepth 100000 in
theorem w976 : (Jvm.Cond.sameMethod "HalfOrders$Order" "HalfOrders$Order" "partAct" "(ILHalfOrders$Line;)I") ∈ mw_tbl := mwt_4 172 rfl rfl
set_option maxRecDepth 100000 in
theorem w977 : (Jvm.Cond.selects "HalfOrders$Beside" ({ cls := "HalfOrders$Order", name := "partAct", desc := "(ILHalfOrders$Line;)I" } : Jvm.MethodName) ({ cls := "HalfOrders$Order", name := "partAct", desc := "(ILHalfOrders$Line;)I" } : Jvm.MethodName)) ∈ mw_tbl := mwt_4 173 rfl rfl
set_option maxRecDepth 100000 in
theorem w978 : (Jvm.Cond.selects "HalfOrders$Held" ({ cls := "HalfOrders$Order", name := "partAct", desc := "(ILHalfOrders$Line;)I" } : Jvm.MethodName) ({ cls := "HalfOrders$Order", name := "partAct", desc := "(ILHalfOrders$Line;)I" } : Jvm.MethodName)) ∈ mw_tbl := mwt_4 174 rfl rfl
set_option maxRecDepth 100000 in
theorem w979 : (Jvm.Cond.selects "HalfOrders$Row" ({ cls := "HalfOrders$Order", name := "partAct", desc := "(ILHalfOrders$Line;)I" } : Jvm.MethodName) ({ cls := "HalfOrders$Row", name := "partAct", desc := "(ILHalfOrders$Line;)I" } : Jvm.MethodName)) ∈ mw_tbl := mwt_4 175 rfl rfl
set_option maxRecDepth 100000 in
theorem w980 : (Jvm.Cond.instanceMethod ({ cls := "HalfOrders$Row", name := "partAct", desc := "(ILHalfOrders$Line;)I" } : Jvm.MethodName)) ∈ mw_tbl := mwt_4 176 rfl rfl
set_option maxRecDepth 100000 in
theorem w981 : (Jvm.Cond.code ({ cls := "HalfOrders$Row", name := "partAct", desc := "(ILHalfOrders$Line;)I" } : Jvm.MethodName) prog_7_method_3_code (3 : Nat) (Option.some Jvm.ClassFile.FieldType.int)) ∈ mw_tbl := mwt_4 177 rfl rfl
set_option maxRecDepth 100000 in
theorem w982 : (Jvm.Cond.methodLink "HalfOrders$Row" (13 : Nat) ({ cls := "HalfOrders$Stack", name := "partAct", desc := "(ILHalfOrders$Line;)I" } : Jvm.MethodName)) ∈ mw_tbl := mwt_4 178 rfl rfl
set_option maxRecDepth 100000 in
theorem w983 : (Jvm.Cond.sameMethod "HalfOrders$Stack" "HalfOrders$Order" "partAct" "(ILHalfOrders$Line;)I") ∈ mw_tbl := mwt_4 179 rfl rfl
set_option maxRecDepth 100000 in
theorem w985 : (Jvm.Cond.selects "HalfOrders$Stack" ({ cls := "HalfOrders$Order", name := "partAct", desc := "(ILHalfOrders$Line;)I" } : Jvm.MethodName) ({ cls := "HalfOrders$Order", name := "partAct", desc := "(ILHalfOrders$Line;)I" } : Jvm.MethodName)) ∈ mw_tbl := mwt_4 181 rfl rfl
set_option maxRecDepth 100000 in
theorem w986 : (Jvm.Cond.selects "HalfOrders$Times" ({ cls := "HalfOrders$Order", name := "partAct", desc := "(ILHalfOrders$Line;)I" } : Jvm.MethodName) ({ cls := "HalfOrders$Times", name := "partAct", desc := "(ILHalfOrders$Line;)I" } : Jvm.MethodName)) ∈ mw_tbl := mwt_4 182 rfl rfl
set_option maxRecDepth 100000 in
theorem w987 : (Jvm.Cond.instanceMethod ({ cls := "HalfOrders$Times", name := "partAct", desc := "(ILHalfOrders$Line;)I" } : Jvm.MethodName)) ∈ mw_tbl := mwt_4 183 rfl rfl
set_option maxRecDepth 100000 in
theorem w988 : (Jvm.Cond.code ({ cls := "HalfOrders$Times", name := "partAct", desc := "(ILHalfOrders$Line;)I" } : Jvm.MethodName) prog_12_method_3_code (3 : Nat) (Option.some Jvm.ClassFile.FieldType.int)) ∈ mw_tbl := mwt_4 184 rfl rfl
set_option maxRecDepth 100000 in
theorem w989 : (Jvm.Cond.methodLink "HalfOrders$Times" (7 : Nat) ({ cls := "HalfOrders$Line", name := "add", desc := "(I)V" } : Jvm.MethodName)) ∈ mw_tbl := mwt_4 185 rfl rfl
set_option maxRecDepth 100000 in
theorem w990 : (Jvm.Cond.methodLink "HalfOrders$Times" (13 : Nat) ({ cls := "HalfOrders$Beside", name := "partAct", desc := "(ILHalfOrders$Line;)I" } : Jvm.MethodName)) ∈ mw_tbl := mwt_4 186 rfl rfl
set_option maxRecDepth 100000 in
theorem w991 : (Jvm.Cond.sameMethod "HalfOrders$Beside" "HalfOrders$Order" "partAct" "(ILHalfOrders$Line;)I") ∈ mw_tbl := mwt_4 187 rfl rfl
set_option maxRecDepth 100000 in
theorem w992 : (Jvm.Cond.code ({ cls := "HalfOrders$Order", name := "partAct", desc := "(ILHalfOrders$Line;)I" } : Jvm.MethodName) prog_6_method_4_code (3 : Nat) (Option.some Jvm.ClassFile.FieldType.int)) ∈ mw_tbl := mwt_4 188 rfl rfl
set_option maxRecDepth 100000 in
theorem w993 : (Jvm.Cond.methodLink "HalfOrders$Order" (43 : Nat) ({ cls := "HalfOrders$Order", name := "lookAct", desc := "(ILHalfOrders$Line;)I" } : Jvm.MethodName)) ∈ mw_tbl := mwt_4 189 rfl rfl
set_option maxRecDepth 100000 in
theorem w994 : (Jvm.Cond.methodLink "HalfOrders" (290 : Nat) ({ cls := "HalfOrders$Order", name := "joinAct", desc := "(ILHalfOrders$Line;)I" } : Jvm.MethodName)) ∈ mw_tbl := mwt_4 190 rfl rfl
set_option maxRecDepth 100000 in
theorem w995 : (Jvm.Cond.instanceMethod ({ cls := "HalfOrders$Order", name := "joinAct", desc := "(ILHalfOrders$Line;)I" } : Jvm.MethodName)) ∈ mw_tbl := mwt_4 191 rfl rfl
set_option maxRecDepth 100000 in
theorem w996 : (Jvm.Cond.selects "HalfOrders$Order" ({ cls := "HalfOrders$Order", name := "joinAct", desc := "(ILHalfOrders$Line;)I" } : Jvm.MethodName) ({ cls := "HalfOrders$Order", name := "joinAct", desc := "(ILHalfOrders$Line;)I" } : Jvm.MethodName)) ∈ mw_tbl := mwt_4 192 rfl rfl
set_option maxRecDepth 100000 in
theorem w997 : (Jvm.Cond.sameMethod "HalfOrders$Order" "HalfOrders$Order" "joinAct" "(ILHalfOrders$Line;)I") ∈ mw_tbl := mwt_4 193 rfl rfl
set_option maxRecDepth 100000 in
theorem w998 : (Jvm.Cond.selects "HalfOrders$Beside" ({ cls := "HalfOrders$Order", name := "joinAct", desc := "(ILHalfOrders$Line;)I" } : Jvm.MethodName) ({ cls := "HalfOrders$Beside", name := "joinAct", desc := "(ILHalfOrders$Line;)I" } : Jvm.MethodName)) ∈ mw_tbl := mwt_4 194 rfl rfl
set_option maxRecDepth 100000 in
theorem w999 : (Jvm.Cond.instanceMethod ({ cls := "HalfOrders$Beside", name := "joinAct", desc := "(ILHalfOrders$Line;)I" } : Jvm.MethodName)) ∈ mw_tbl := mwt_4 195 rfl rfl
set_option maxRecDepth 100000 in
theorem w1000 : (Jvm.Cond.code ({ cls := "HalfOrders$Beside", name := "joinAct", desc := "(ILHalfOrders$Line;)I" } : Jvm.MethodName) prog_2_method_3_code (3 : Nat) (Option.some Jvm.ClassFile.FieldType.int)) ∈ mw_tbl := mwt_4 196 rfl rfl
set_option maxRecDepth 100000 in
theorem w1001 : (Jvm.Cond.methodLink "HalfOrders$Beside" (7 : Nat) ({ cls := "HalfOrders$Line", name := "add", desc := "(I)V" } : Jvm.MethodName)) ∈ mw_tbl := mwt_4 197 rfl rfl
set_option maxRecDepth 100000 in
theorem w1002 : (Jvm.Cond.methodLink "HalfOrders$Beside" (13 : Nat) ({ cls := "HalfOrders$Stack", name := "joinAct", desc := "(ILHalfOrders$Line;)I" } : Jvm.MethodName)) ∈ mw_tbl := mwt_4 198 rfl rfl
set_option maxRecDepth 100000 in
theorem w1003 : (Jvm.Cond.sameMethod "HalfOrders$Stack" "HalfOrders$Order" "joinAct" "(ILHalfOrders$Line;)I") ∈ mw_tbl := mwt_4 199 rfl rfl
set_option maxRecDepth 100000 in
theorem w1005 : (Jvm.Cond.selects "HalfOrders$Held" ({ cls := "HalfOrders$Order", name := "joinAct", desc := "(ILHalfOrders$Line;)I" } : Jvm.MethodName) ({ cls := "HalfOrders$Order", name := "joinAct", desc := "(ILHalfOrders$Line;)I" } : Jvm.MethodName)) ∈ mw_tbl := mwt_4 201 rfl rfl
set_option maxRecDepth 100000 in
theorem w1006 : (Jvm.Cond.selects "HalfOrders$Row" ({ cls := "HalfOrders$Order", name := "joinAct", desc := "(ILHalfOrders$Line;)I" } : Jvm.MethodName) ({ cls := "HalfOrders$Order", name := "joinAct", desc := "(ILHalfOrders$Line;)I" } : Jvm.MethodName)) ∈ mw_tbl := mwt_4 202 rfl rfl
set_option maxRecDepth 100000 in
theorem w1007 : (Jvm.Cond.selects "HalfOrders$Stack" ({ cls := "HalfOrders$Order", name := "joinAct", desc := "(ILHalfOrders$Line;)I" } : Jvm.MethodName) ({ cls := "HalfOrders$Order", name := "joinAct", desc := "(ILHalfOrders$Line;)I" } : Jvm.MethodName)) ∈ mw_tbl := mwt_4 203 rfl rfl
set_option maxRecDepth 100000 in
theorem w1008 : (Jvm.Cond.selects "HalfOrders$Times" ({ cls := "HalfOrders$Order", name := "joinAct", desc := "(ILHalfOrders$Line;)I" } : Jvm.MethodName) ({ cls := "HalfOrders$Times", name := "joinAct", desc := "(ILHalfOrders$Line;)I" } : Jvm.MethodName)) ∈ mw_tbl := mwt_4 204 rfl rfl
set_option maxRecDepth 100000 in
theorem w1009 : (Jvm.Cond.instanceMethod ({ cls := "HalfOrders$Times", name := "joinAct", desc := "(ILHalfOrders$Line;)I" } : Jvm.MethodName)) ∈ mw_tbl := mwt_4 205 rfl rfl
set_option maxRecDepth 100000 in
theorem w1010 : (Jvm.Cond.code ({ cls := "HalfOrders$Times", name := "joinAct", desc := "(ILHalfOrders$Line;)I" } : Jvm.MethodName) prog_12_method_4_code (3 : Nat) (Option.some Jvm.ClassFile.FieldType.int)) ∈ mw_tbl := mwt_4 206 rfl rfl
set_option maxRecDepth 100000 in
theorem w1011 : (Jvm.Cond.methodLink "HalfOrders$Times" (23 : Nat) ({ cls := "HalfOrders$Beside", name := "joinAct", desc := "(ILHalfOrders$Line;)I" } : Jvm.MethodName)) ∈ mw_tbl := mwt_4 207 rfl rfl
set_option maxRecDepth 100000 in
theorem w1012 : (Jvm.Cond.methodLink "HalfOrders$Times" (26 : Nat) ({ cls := "HalfOrders$Beside", name := "lookAct", desc := "(ILHalfOrders$Line;)I" } : Jvm.MethodName)) ∈ mw_tbl := mwt_4 208 rfl rfl
set_option maxRecDepth 100000 in
theorem w1013 : (Jvm.Cond.sameMethod "HalfOrders$Beside" "HalfOrders$Stack" "lookAct" "(ILHalfOrders$Line;)I") ∈ mw_tbl := mwt_4 209 rfl rfl
set_option maxRecDepth 100000 in
theorem w1015 : (Jvm.Cond.code ({ cls := "HalfOrders$Order", name := "joinAct", desc := "(ILHalfOrders$Line;)I" } : Jvm.MethodName) prog_6_method_5_code (3 : Nat) (Option.some Jvm.ClassFile.FieldType.int)) ∈ mw_tbl := mwt_4 211 rfl rfl
set_option maxRecDepth 100000 in
theorem w1016 : (Jvm.Cond.methodLink "HalfOrders" (293 : Nat) ({ cls := "HalfOrders$Order", name := "tellAct", desc := "(ILHalfOrders$Line;)I" } : Jvm.MethodName)) ∈ mw_tbl := mwt_4 212 rfl rfl
set_option maxRecDepth 100000 in
theorem w1017 : (Jvm.Cond.instanceMethod ({ cls := "HalfOrders$Order", name := "tellAct", desc := "(ILHalfOrders$Line;)I" } : Jvm.MethodName)) ∈ mw_tbl := mwt_4 213 rfl rfl
set_option maxRecDepth 100000 in
theorem w1018 : (Jvm.Cond.selects "HalfOrders$Order" ({ cls := "HalfOrders$Order", name := "tellAct", desc := "(ILHalfOrders$Line;)I" } : Jvm.MethodName) ({ cls := "HalfOrders$Order", name := "tellAct", desc := "(ILHalfOrders$Line;)I" } : Jvm.MethodName)) ∈ mw_tbl := mwt_4 214 rfl rfl
set_option maxRecDepth 100000 in
theorem w1019 : (Jvm.Cond.sameMethod "HalfOrders$Order" "HalfOrders$Order" "tellAct" "(ILHalfOrders$Line;)I") ∈ mw_tbl := mwt_4 215 rfl rfl
set_option maxRecDepth 100000 in
theorem w1020 : (Jvm.Cond.selects "HalfOrders$Beside" ({ cls := "HalfOrders$Order", name := "tellAct", desc := "(ILHalfOrders$Line;)I" } : Jvm.MethodName) ({ cls := "HalfOrders$Stack", name := "tellAct", desc := "(ILHalfOrders$Line;)I" } : Jvm.MethodName)) ∈ mw_tbl := mwt_4 216 rfl rfl
set_option maxRecDepth 100000 in
theorem w1021 : (Jvm.Cond.instanceMethod ({ cls := "HalfOrders$Stack", name := "tellAct", desc := "(ILHalfOrders$Line;)I" } : Jvm.MethodName)) ∈ mw_tbl := mwt_4 217 rfl rfl
set_option maxRecDepth 100000 in
theorem w1022 : (Jvm.Cond.code ({ cls := "HalfOrders$Stack", name := "tellAct", desc := "(ILHalfOrders$Line;)I" } : Jvm.MethodName) prog_11_method_4_code (3 : Nat) (Option.some Jvm.ClassFile.FieldType.int)) ∈ mw_tbl := mwt_4 218 rfl rfl
set_option maxRecDepth 100000 in
theorem w1023 : (Jvm.Cond.methodLink "HalfOrders$Stack" (17 : Nat) ({ cls := "HalfOrders$Order", name := "tellAct", desc := "(ILHalfOrders$Line;)I" } : Jvm.MethodName)) ∈ mw_tbl := mwt_4 219 rfl rfl
set_option maxRecDepth 100000 in
theorem w1024 : (Jvm.Cond.selects "HalfOrders$Held" ({ cls := "HalfOrders$Order", name := "tellAct", desc := "(ILHalfOrders$Line;)I" } : Jvm.MethodName) ({ cls := "HalfOrders$Held", name := "tellAct", desc := "(ILHalfOrders$Line;)I" } : Jvm.MethodName)) ∈ mw_tbl := mwt_4 220 rfl rfl
set_option maxRecDepth 100000 in
theorem w1025 : (Jvm.Cond.instanceMethod ({ cls := "HalfOrders$Held", name := "tellAct", desc := "(ILHalfOrders$Line;)I" } : Jvm.MethodName)) ∈ mw_tbl := mwt_4 221 rfl rfl
set_option maxRecDepth 100000 in
theorem w1026 : (Jvm.Cond.code ({ cls := "HalfOrders$Held", name := "tellAct", desc := "(ILHalfOrders$Line;)I" } : Jvm.MethodName) prog_4_method_4_code (3 : Nat) (Option.some Jvm.ClassFile.FieldType.int)) ∈ mw_tbl := mwt_4 222 rfl rfl
set_option maxRecDepth 100000 in
theorem w1027 : (Jvm.Cond.methodLink "HalfOrders$Held" (23 : Nat) ({ cls := "HalfOrders$Held", name := "joinAct", desc := "(ILHalfOrders$Line;)I" } : Jvm.MethodName)) ∈ mw_tbl := mwt_4 223 rfl rfl
set_option maxRecDepth 100000 in
theorem w1028 : (Jvm.Cond.sameMethod "HalfOrders$Held" "HalfOrders$Order" "joinAct" "(ILHalfOrders$Line;)I") ∈ mw_tbl := mwt_4 224 rfl rfl
set_option maxRecDepth 100000 in
theorem w1029 : (Jvm.Cond.selects "HalfOrders$Held" ({ cls := "HalfOrders$Held", name := "joinAct", desc := "(ILHalfOrders$Line;)I" } : Jvm.MethodName) ({ cls := "HalfOrders$Order", name := "joinAct", desc := "(ILHalfOrders$Line;)I" } : Jvm.MethodName)) ∈ mw_tbl := mwt_4 225 rfl rfl
set_option maxRecDepth 100000 in
theorem w1030 : (Jvm.Cond.methodLink "HalfOrders$Held" (26 : Nat) ({ cls := "HalfOrders$Order", name := "tellAct", desc := "(ILHalfOrders$Line;)I" } : Jvm.MethodName)) ∈ mw_tbl := mwt_4 226 rfl rfl
set_option maxRecDepth 100000 in
theorem w1031 : (Jvm.Cond.selects "HalfOrders$Row" ({ cls := "HalfOrders$Order", name := "tellAct", desc := "(ILHalfOrders$Line;)I" } : Jvm.MethodName) ({ cls := "HalfOrders$Stack", name := "tellAct", desc := "(ILHalfOrders$Line;)I" } : Jvm.MethodName)) ∈ mw_tbl := mwt_4 227 rfl rfl
set_option maxRecDepth 100000 in
theorem w1032 : (Jvm.Cond.selects "HalfOrders$Stack" ({ cls := "HalfOrders$Order", name := "tellAct", desc := "(ILHalfOrders$Line;)I" } : Jvm.MethodName) ({ cls := "HalfOrders$Stack", name := "tellAct", desc := "(ILHalfOrders$Line;)I" } : Jvm.MethodName)) ∈ mw_tbl := mwt_4 228 rfl rfl
set_option maxRecDepth 100000 in
theorem w1033 : (Jvm.Cond.selects "HalfOrders$Times" ({ cls := "HalfOrders$Order", name := "tellAct", desc := "(ILHalfOrders$Line;)I" } : Jvm.MethodName) ({ cls := "HalfOrders$Stack", name := "tellAct", desc := "(ILHalfOrders$Line;)I" } : Jvm.MethodName)) ∈ mw_tbl := mwt_4 229 rfl rfl
set_option maxRecDepth 100000 in
theorem w1034 : (Jvm.Cond.code ({ cls := "HalfOrders$Order", name := "tellAct", desc := "(ILHalfOrders$Line;)I" } : Jvm.MethodName) prog_6_method_6_code (3 : Nat) (Option.some Jvm.ClassFile.FieldType.int)) ∈ mw_tbl := mwt_4 230 rfl rfl
set_option maxRecDepth 100000 in
theorem w1035 : (Jvm.Cond.methodLink "HalfOrders$Order" (47 : Nat) ({ cls := "HalfOrders$Order", name := "partAct", desc := "(ILHalfOrders$Line;)I" } : Jvm.MethodName)) ∈ mw_tbl := mwt_4 231 rfl rfl
set_option maxRecDepth 100000 in
theorem w1036 : (Jvm.Cond.methodLink "HalfOrders$Order" (50 : Nat) ({ cls := "HalfOrders$Order", name := "joinAct", desc := "(ILHalfOrders$Line;)I" } : Jvm.MethodName)) ∈ mw_tbl := mwt_4 232 rfl rfl
set_option maxRecDepth 100000 in
theorem w1045 : (Jvm.Cond.methodLink "HalfOrders" (296 : Nat) ({ cls := "HalfOrders", name := "findSheet", desc := "(I)LHalfOrders$Sheet;" } : Jvm.MethodName)) ∈ mw_tbl := mwt_5 1 rfl rfl
set_option maxRecDepth 100000 in
theorem w1047 : (Jvm.Cond.instanceMethod ({ cls := "HalfOrders", name := "findSheet", desc := "(I)LHalfOrders$Sheet;" } : Jvm.MethodName)) ∈ mw_tbl := mwt_5 3 rfl rfl
set_option maxRecDepth 100000 in
theorem w1048 : (Jvm.Cond.code ({ cls := "HalfOrders", name := "findSheet", desc := "(I)LHalfOrders$Sheet;" } : Jvm.MethodName) prog_1_method_43_code (2 : Nat) (Option.some (Jvm.ClassFile.FieldType.object "HalfOrders$Sheet"))) ∈ mw_tbl := mwt_5 4 rfl rfl
set_option maxRecDepth 100000 in
theorem w1049 : (Jvm.Cond.methodLink "HalfOrders" (300 : Nat) ({ cls := "HalfOrders$Sheet", name := "renew", desc := "(II)V" } : Jvm.MethodName)) ∈ mw_tbl := mwt_5 5 rfl rfl
set_option maxRecDepth 100000 in
theorem w1050 : (Jvm.Cond.instanceMethod ({ cls := "HalfOrders$Sheet", name := "renew", desc := "(II)V" } : Jvm.MethodName)) ∈ mw_tbl := mwt_5 6 rfl rfl
set_option maxRecDepth 100000 in
theorem w1051 : (Jvm.Cond.selects "HalfOrders$Sheet" ({ cls := "HalfOrders$Sheet", name := "renew", desc := "(II)V" } : Jvm.MethodName) ({ cls := "HalfOrders$Sheet", name := "renew", desc := "(II)V" } : Jvm.MethodName)) ∈ mw_tbl := mwt_5 7 rfl rfl
set_option maxRecDepth 100000 in
theorem w1052 : (Jvm.Cond.code ({ cls := "HalfOrders$Sheet", name := "renew", desc := "(II)V" } : Jvm.MethodName) prog_10_method_2_code (3 : Nat) (Option.none : Option Jvm.ClassFile.FieldType)) ∈ mw_tbl := mwt_5 8 rfl rfl
set_option maxRecDepth 100000 in
theorem w1053 : (Jvm.Cond.methodLink "HalfOrders$Sheet" (22 : Nat) ({ cls := "java/util/Arrays", name := "fill", desc := "([II)V" } : Jvm.MethodName)) ∈ mw_tbl := mwt_5 9 rfl rfl
set_option maxRecDepth 100000 in
theorem w1054 : (Jvm.Cond.methodLink "HalfOrders$Sheet" (28 : Nat) ({ cls := "java/lang/Math", name := "min", desc := "(II)I" } : Jvm.MethodName)) ∈ mw_tbl := mwt_5 10 rfl rfl
set_option maxRecDepth 100000 in
theorem w1059 : (Jvm.Cond.methodLink "HalfOrders" (303 : Nat) ({ cls := "HalfOrders$Sheet", name := "isMissing", desc := "()Z" } : Jvm.MethodName)) ∈ mw_tbl := mwt_5 15 rfl rfl
set_option maxRecDepth 100000 in
theorem w1060 : (Jvm.Cond.instanceMethod ({ cls := "HalfOrders$Sheet", name := "isMissing", desc := "()Z" } : Jvm.MethodName)) ∈ mw_tbl := mwt_5 16 rfl rfl
set_option maxRecDepth 100000 in
theorem w1061 : (Jvm.Cond.selects "HalfOrders$Sheet" ({ cls := "HalfOrders$Sheet", name := "isMissing", desc := "()Z" } : Jvm.MethodName) ({ cls := "HalfOrders$Sheet", name := "isMissing", desc := "()Z" } : Jvm.MethodName)) ∈ mw_tbl := mwt_5 17 rfl rfl
set_option maxRecDepth 100000 in
theorem w1062 : (Jvm.Cond.code ({ cls := "HalfOrders$Sheet", name := "isMissing", desc := "()Z" } : Jvm.MethodName) prog_10_method_3_code (1 : Nat) (Option.some Jvm.ClassFile.FieldType.boolean)) ∈ mw_tbl := mwt_5 18 rfl rfl
set_option maxRecDepth 100000 in
theorem w1063 : (Jvm.Cond.methodLink "HalfOrders" (307 : Nat) ({ cls := "HalfOrders$Sheet", name := "hasPlace", desc := "(I)Z" } : Jvm.MethodName)) ∈ mw_tbl := mwt_5 19 rfl rfl
set_option maxRecDepth 100000 in
theorem w1064 : (Jvm.Cond.instanceMethod ({ cls := "HalfOrders$Sheet", name := "hasPlace", desc := "(I)Z" } : Jvm.MethodName)) ∈ mw_tbl := mwt_5 20 rfl rfl
set_option maxRecDepth 100000 in
theorem w1065 : (Jvm.Cond.selects "HalfOrders$Sheet" ({ cls := "HalfOrders$Sheet", name := "hasPlace", desc := "(I)Z" } : Jvm.MethodName) ({ cls := "HalfOrders$Sheet", name := "hasPlace", desc := "(I)Z" } : Jvm.MethodName)) ∈ mw_tbl := mwt_5 21 rfl rfl
set_option maxRecDepth 100000 in
theorem w1066 : (Jvm.Cond.code ({ cls := "HalfOrders$Sheet", name := "hasPlace", desc := "(I)Z" } : Jvm.MethodName) prog_10_method_4_code (2 : Nat) (Option.some Jvm.ClassFile.FieldType.boolean)) ∈ mw_tbl := mwt_5 22 rfl rfl
set_option maxRecDepth 100000 in
theorem w1071 : (Jvm.Cond.methodLink "HalfOrders" (314 : Nat) ({ cls := "HalfOrders$Sheet", name := "whyNotOf", desc := "(I)I" } : Jvm.MethodName)) ∈ mw_tbl := mwt_5 27 rfl rfl
set_option maxRecDepth 100000 in
theorem w1072 : (Jvm.Cond.instanceMethod ({ cls := "HalfOrders$Sheet", name := "whyNotOf", desc := "(I)I" } : Jvm.MethodName)) ∈ mw_tbl := mwt_5 28 rfl rfl
set_option maxRecDepth 100000 in
theorem w1073 : (Jvm.Cond.selects "HalfOrders$Sheet" ({ cls := "HalfOrders$Sheet", name := "whyNotOf", desc := "(I)I" } : Jvm.MethodName) ({ cls := "HalfOrders$Sheet", name := "whyNotOf", desc := "(I)I" } : Jvm.MethodName)) ∈ mw_tbl := mwt_5 29 rfl rfl
set_option maxRecDepth 100000 in
theorem w1074 : (Jvm.Cond.code ({ cls := "HalfOrders$Sheet", name := "whyNotOf", desc := "(I)I" } : Jvm.MethodName) prog_10_method_7_code (2 : Nat) (Option.some Jvm.ClassFile.FieldType.int)) ∈ mw_tbl := mwt_5 30 rfl rfl
set_option maxRecDepth 100000 in
theorem w1075 : (Jvm.Cond.methodLink "HalfOrders$Sheet" (42 : Nat) ({ cls := "HalfOrders$Sheet", name := "isMissing", desc := "()Z" } : Jvm.MethodName)) ∈ mw_tbl := mwt_5 31 rfl rfl
set_option maxRecDepth 100000 in
theorem w1076 : (Jvm.Cond.methodLink "HalfOrders" (318 : Nat) ({ cls := "HalfOrders", name := "tellPairs", desc := "(LHalfOrders$Order;LHalfOrders$Sheet;I)I" } : Jvm.MethodName)) ∈ mw_tbl := mwt_5 32 rfl rfl
set_option maxRecDepth 100000 in
theorem w1077 : (Jvm.Cond.static ({ cls := "HalfOrders", name := "tellPairs", desc := "(LHalfOrders$Order;LHalfOrders$Sheet;I)I" } : Jvm.MethodName)) ∈ mw_tbl := mwt_5 33 rfl rfl
set_option maxRecDepth 100000 in
theorem w1078 : (Jvm.Cond.code ({ cls := "HalfOrders", name := "tellPairs", desc := "(LHalfOrders$Order;LHalfOrders$Sheet;I)I" } : Jvm.MethodName) prog_1_method_49_code (6 : Nat) (Option.some Jvm.ClassFile.FieldType.int)) ∈ mw_tbl := mwt_5 34 rfl rfl
set_option maxRecDepth 100000 in
theorem w1079 : (Jvm.Cond.methodLink "HalfOrders" (340 : Nat) ({ cls := "HalfOrders$Sheet", name := "numberAt", desc := "(I)I" } : Jvm.MethodName)) ∈ mw_tbl := mwt_5 35 rfl rfl
set_option maxRecDepth 100000 in
theorem w1080 : (Jvm.Cond.instanceMethod ({ cls := "HalfOrders$Sheet", name := "numberAt", desc := "(I)I" } : Jvm.MethodName)) ∈ mw_tbl := mwt_5 36 rfl rfl
set_option maxRecDepth 100000 in
theorem w1081 : (Jvm.Cond.selects "HalfOrders$Sheet" ({ cls := "HalfOrders$Sheet", name := "numberAt", desc := "(I)I" } : Jvm.MethodName) ({ cls := "HalfOrders$Sheet", name := "numberAt", desc := "(I)I" } : Jvm.MethodName)) ∈ mw_tbl := mwt_5 37 rfl rfl
set_option maxRecDepth 100000 in
theorem w1082 : (Jvm.Cond.code ({ cls := "HalfOrders$Sheet", name := "numberAt", desc := "(I)I" } : Jvm.MethodName) prog_10_method_5_code (2 : Nat) (Option.some Jvm.ClassFile.FieldType.int)) ∈ mw_tbl := mwt_5 38 rfl rfl
set_option maxRecDepth 100000 in
theorem w1083 : (Jvm.Cond.methodLink "HalfOrders$Sheet" (34 : Nat) ({ cls := "HalfOrders$Sheet", name := "hasPlace", desc := "(I)Z" } : Jvm.MethodName)) ∈ mw_tbl := mwt_5 39 rfl rfl
set_option maxRecDepth 100000 in
theorem w1088 : (Jvm.Cond.methodLink "HalfOrders" (322 : Nat) ({ cls := "java/lang/Math", name := "floorMod", desc := "(II)I" } : Jvm.MethodName)) ∈ mw_tbl := mwt_5 44 rfl rfl
set_option maxRecDepth 100000 in
theorem w1089 : (Jvm.Cond.static ({ cls := "java/lang/Math", name := "floorMod", desc := "(II)I" } : Jvm.MethodName)) ∈ mw_tbl := mwt_5 45 rfl rfl
set_option maxRecDepth 100000 in
theorem w1090 : (Jvm.Cond.code ({ cls := "java/lang/Math", name := "floorMod", desc := "(II)I" } : Jvm.MethodName) prog_16_method_50_code (3 : Nat) (Option.some Jvm.ClassFile.FieldType.int)) ∈ mw_tbl := mwt_5 46 rfl rfl
set_option maxRecDepth 100000 in
theorem w1091 : (Jvm.Cond.methodLink "HalfOrders" (327 : Nat) ({ cls := "HalfOrders", name := "takeForKind", desc := "(LHalfOrders$Order;I)I" } : Jvm.MethodName)) ∈ mw_tbl := mwt_5 47 rfl rfl
set_option maxRecDepth 100000 in
theorem w1093 : (Jvm.Cond.instanceMethod ({ cls := "HalfOrders", name := "takeForKind", desc := "(LHalfOrders$Order;I)I" } : Jvm.MethodName)) ∈ mw_tbl := mwt_5 49 rfl rfl
set_option maxRecDepth 100000 in
theorem w1094 : (Jvm.Cond.code ({ cls := "HalfOrders", name := "takeForKind", desc := "(LHalfOrders$Order;I)I" } : Jvm.MethodName) prog_1_method_50_code (3 : Nat) (Option.some Jvm.ClassFile.FieldType.int)) ∈ mw_tbl := mwt_5 50 rfl rfl
set_option maxRecDepth 100000 in
theorem w1095 : (Jvm.Cond.methodLink "HalfOrders" (343 : Nat) ({ cls := "HalfOrders", name := "isOfKind", desc := "(LHalfOrders$Order;I)Z" } : Jvm.MethodName)) ∈ mw_tbl := mwt_5 51 rfl rfl
set_option maxRecDepth 100000 in
theorem w1096 : (Jvm.Cond.static ({ cls := "HalfOrders", name := "isOfKind", desc := "(LHalfOrders$Order;I)Z" } : Jvm.MethodName)) ∈ mw_tbl := mwt_5 52 rfl rfl
set_option maxRecDepth 100000 in
theorem w1097 : (Jvm.Cond.code ({ cls := "HalfOrders", name := "isOfKind", desc := "(LHalfOrders$Order;I)Z" } : Jvm.MethodName) prog_1_method_51_code (2 : Nat) (Option.some Jvm.ClassFile.FieldType.boolean)) ∈ mw_tbl := mwt_5 53 rfl rfl
set_option maxRecDepth 100000 in
theorem w1098 : (Jvm.Cond.methodLink "HalfOrders" (330 : Nat) ({ cls := "HalfOrders", name := "readShort", desc := "(LHalfOrders$Sheet;I)I" } : Jvm.MethodName)) ∈ mw_tbl := mwt_5 54 rfl rfl
set_option maxRecDepth 100000 in
theorem w1100 : (Jvm.Cond.instanceMethod ({ cls := "HalfOrders", name := "readShort", desc := "(LHalfOrders$Sheet;I)I" } : Jvm.MethodName)) ∈ mw_tbl := mwt_5 56 rfl rfl
set_option maxRecDepth 100000 in
theorem w1101 : (Jvm.Cond.code ({ cls := "HalfOrders", name := "readShort", desc := "(LHalfOrders$Sheet;I)I" } : Jvm.MethodName) prog_1_method_52_code (4 : Nat) (Option.some Jvm.ClassFile.FieldType.int)) ∈ mw_tbl := mwt_5 57 rfl rfl
set_option maxRecDepth 100000 in
theorem w1102 : (Jvm.Cond.methodLink "HalfOrders" (334 : Nat) ({ cls := "HalfOrders", name := "copyBytes", desc := "(LHalfOrders$Sheet;I)I" } : Jvm.MethodName)) ∈ mw_tbl := mwt_5 58 rfl rfl
set_option maxRecDepth 100000 in
theorem w1104 : (Jvm.Cond.instanceMethod ({ cls := "HalfOrders", name := "copyBytes", desc := "(LHalfOrders$Sheet;I)I" } : Jvm.MethodName)) ∈ mw_tbl := mwt_5 60 rfl rfl
set_option maxRecDepth 100000 in
theorem w1105 : (Jvm.Cond.code ({ cls := "HalfOrders", name := "copyBytes", desc := "(LHalfOrders$Sheet;I)I" } : Jvm.MethodName) prog_1_method_53_code (4 : Nat) (Option.some Jvm.ClassFile.FieldType.int)) ∈ mw_tbl := mwt_5 61 rfl rfl
set_option maxRecDepth 100000 in
theorem w1106 : (Jvm.Cond.methodLink "HalfOrders" (346 : Nat) ({ cls := "HalfOrders$Sheet", name := "sumOf", desc := "(II)I" } : Jvm.MethodName)) ∈ mw_tbl := mwt_5 62 rfl rfl
set_option maxRecDepth 100000 in
theorem w1107 : (Jvm.Cond.instanceMethod ({ cls := "HalfOrders$Sheet", name := "sumOf", desc := "(II)I" } : Jvm.MethodName)) ∈ mw_tbl := mwt_5 63 rfl rfl
set_option maxRecDepth 100000 in
theorem w1108 : (Jvm.Cond.selects "HalfOrders$Sheet" ({ cls := "HalfOrders$Sheet", name := "sumOf", desc := "(II)I" } : Jvm.MethodName) ({ cls := "HalfOrders$Sheet", name := "sumOf", desc := "(II)I" } : Jvm.MethodName)) ∈ mw_tbl := mwt_5 64 rfl rfl
set_option maxRecDepth 100000 in
theorem w1109 : (Jvm.Cond.code ({ cls := "HalfOrders$Sheet", name := "sumOf", desc := "(II)I" } : Jvm.MethodName) prog_10_method_6_code (5 : Nat) (Option.some Jvm.ClassFile.FieldType.int)) ∈ mw_tbl := mwt_5 65 rfl rfl
set_option maxRecDepth 100000 in
theorem w1110 : (Jvm.Cond.methodLink "HalfOrders$Sheet" (38 : Nat) ({ cls := "HalfOrders$Sheet", name := "numberAt", desc := "(I)I" } : Jvm.MethodName)) ∈ mw_tbl := mwt_5 66 rfl rfl
set_option maxRecDepth 100000 in
theorem w1111 : (Jvm.Cond.methodLink "HalfOrders" (337 : Nat) ({ cls := "HalfOrders", name := "putAmongStacks", desc := "(LHalfOrders$Order;)I" } : Jvm.MethodName)) ∈ mw_tbl := mwt_5 67 rfl rfl
set_option maxRecDepth 100000 in
theorem w1113 : (Jvm.Cond.instanceMethod ({ cls := "HalfOrders", name := "putAmongStacks", desc := "(LHalfOrders$Order;)I" } : Jvm.MethodName)) ∈ mw_tbl := mwt_5 69 rfl rfl
set_option maxRecDepth 100000 in
theorem w1114 : (Jvm.Cond.code ({ cls := "HalfOrders", name := "putAmongStacks", desc := "(LHalfOrders$Order;)I" } : Jvm.MethodName) prog_1_method_54_code (2 : Nat) (Option.some Jvm.ClassFile.FieldType.int)) ∈ mw_tbl := mwt_5 70 rfl rfl
set_option maxRecDepth 100000 in
theorem w1119 : (Jvm.Cond.classLink "HalfOrdersLaw" (10 : Nat) "HalfOrdersModel") ∈ mw_tbl := mwt_5 75 rfl rfl
set_option maxRecDepth 100000 in
theorem w1120 : (Jvm.Cond.instantiable "HalfOrdersModel" (27 : Nat)) ∈ mw_tbl := mwt_5 76 rfl rfl
set_option maxRecDepth 100000 in
theorem w1124 : (Jvm.Cond.methodLink "HalfOrdersModel" (1 : Nat) ({ cls := "java/lang/Object", name := "<init>", desc := "()V" } : Jvm.MethodName)) ∈ mw_tbl := mwt_5 80 rfl rfl
set_option maxRecDepth 100000 in
theorem w1125 : (Jvm.Cond.fieldLink "HalfOrdersModel" (71 : Nat) "HalfOrdersModel" "orders" "I") ∈ mw_tbl := mwt_5 81 rfl rfl
set_option maxRecDepth 100000 in
theorem w1126 : (Jvm.Cond.fieldLink "HalfOrdersModel" (7 : Nat) "HalfOrdersModel" "kind" "[I") ∈ mw_tbl := mwt_5 82 rfl rfl
set_option maxRecDepth 100000 in
theorem w1127 : (Jvm.Cond.fieldLink "HalfOrdersModel" (13 : Nat) "HalfOrdersModel" "size" "[I") ∈ mw_tbl := mwt_5 83 rfl rfl
set_option maxRecDepth 100000 in
theorem w1128 : (Jvm.Cond.fieldLink "HalfOrdersModel" (16 : Nat) "HalfOrdersModel" "below" "[I") ∈ mw_tbl := mwt_5 84 rfl rfl
set_option maxRecDepth 100000 in
theorem w1129 : (Jvm.Cond.fieldLink "HalfOrdersModel" (19 : Nat) "HalfOrdersModel" "handOrder" "I") ∈ mw_tbl := mwt_5 85 rfl rfl
set_option maxRecDepth 100000 in
theorem w1130 : (Jvm.Cond.fieldLink "HalfOrdersModel" (139 : Nat) "HalfOrdersModel" "handSize" "I") ∈ mw_tbl := mwt_5 86 rfl rfl
set_option maxRecDepth 100000 in
theorem w1131 : (Jvm.Cond.fieldLink "HalfOrdersModel" (23 : Nat) "HalfOrdersModel" "hand" "[I") ∈ mw_tbl := mwt_5 87 rfl rfl
set_option maxRecDepth 100000 in
theorem w1132 : (Jvm.Cond.fieldLink "HalfOrdersModel" (107 : Nat) "HalfOrdersModel" "rounds" "I") ∈ mw_tbl := mwt_5 88 rfl rfl
set_option maxRecDepth 100000 in
theorem w1133 : (Jvm.Cond.fieldLink "HalfOrdersModel" (26 : Nat) "HalfOrdersModel" "round" "[I") ∈ mw_tbl := mwt_5 89 rfl rfl
set_option maxRecDepth 100000 in
theorem w1134 : (Jvm.Cond.fieldLink "HalfOrdersModel" (29 : Nat) "HalfOrdersModel" "sort" "[I") ∈ mw_tbl := mwt_5 90 rfl rfl
set_option maxRecDepth 100000 in
theorem w1135 : (Jvm.Cond.fieldLink "HalfOrdersModel" (32 : Nat) "HalfOrdersModel" "sheetSize" "[I") ∈ mw_tbl := mwt_5 91 rfl rfl
set_option maxRecDepth 100000 in
theorem w1136 : (Jvm.Cond.fieldLink "HalfOrdersModel" (35 : Nat) "HalfOrdersModel" "cells" "[I") ∈ mw_tbl := mwt_5 92 rfl rfl
set_option maxRecDepth 100000 in
theorem w1137 : (Jvm.Cond.fieldLink "HalfOrdersModel" (68 : Nat) "HalfOrdersModel" "status" "I") ∈ mw_tbl := mwt_5 93 rfl rfl
set_option maxRecDepth 100000 in
theorem w1138 : (Jvm.Cond.fieldLink "HalfOrdersModel" (38 : Nat) "HalfOrdersModel" "traced" "[I") ∈ mw_tbl := mwt_5 94 rfl rfl
set_option maxRecDepth 100000 in
theorem w1139 : (Jvm.Cond.fieldLink "HalfOrdersModel" (246 : Nat) "HalfOrdersModel" "traces" "I") ∈ mw_tbl := mwt_5 95 rfl rfl
set_option maxRecDepth 100000 in
theorem w1140 : (Jvm.Cond.fieldLink "HalfOrdersModel" (41 : Nat) "HalfOrdersModel" "far" "[I") ∈ mw_tbl := mwt_5 96 rfl rfl
set_option maxRecDepth 100000 in
theorem w1141 : (Jvm.Cond.fieldLink "HalfOrdersModel" (44 : Nat) "HalfOrdersModel" "ways" "[I") ∈ mw_tbl := mwt_5 97 rfl rfl
set_option maxRecDepth 100000 in
theorem w1142 : (Jvm.Cond.fieldLink "HalfOrdersModel" (47 : Nat) "HalfOrdersModel" "left" "[I") ∈ mw_tbl := mwt_5 98 rfl rfl
set_option maxRecDepth 100000 in
theorem w1143 : (Jvm.Cond.fieldLink "HalfOrdersModel" (50 : Nat) "HalfOrdersModel" "jumps" "[I") ∈ mw_tbl := mwt_5 99 rfl rfl
set_option maxRecDepth 100000 in
theorem w1144 : (Jvm.Cond.fieldLink "HalfOrdersModel" (53 : Nat) "HalfOrdersModel" "out" "[I") ∈ mw_tbl := mwt_5 100 rfl rfl
set_option maxRecDepth 100000 in
theorem w1145 : (Jvm.Cond.fieldLink "HalfOrdersModel" (56 : Nat) "HalfOrdersModel" "choice" "[I") ∈ mw_tbl := mwt_5 101 rfl rfl
set_option maxRecDepth 100000 in
theorem w1146 : (Jvm.Cond.fieldLink "HalfOrdersModel" (93 : Nat) "HalfOrdersModel" "isKnown" "Z") ∈ mw_tbl := mwt_5 102 rfl rfl
set_option maxRecDepth 100000 in
theorem w1147 : (Jvm.Cond.fieldLink "HalfOrdersModel" (190 : Nat) "HalfOrdersModel" "knownOrder" "I") ∈ mw_tbl := mwt_5 103 rfl rfl
set_option maxRecDepth 100000 in
theorem w1148 : (Jvm.Cond.fieldLink "HalfOrdersModel" (196 : Nat) "HalfOrdersModel" "areTwo" "Z") ∈ mw_tbl := mwt_5 104 rfl rfl
set_option maxRecDepth 100000 in
theorem w1149 : (Jvm.Cond.fieldLink "HalfOrdersModel" (59 : Nat) "HalfOrdersModel" "first" "[I") ∈ mw_tbl := mwt_5 105 rfl rfl
set_option maxRecDepth 100000 in
theorem w1150 : (Jvm.Cond.fieldLink "HalfOrdersModel" (62 : Nat) "HalfOrdersModel" "second" "[I") ∈ mw_tbl := mwt_5 106 rfl rfl
set_option maxRecDepth 100000 in
theorem w1151 : (Jvm.Cond.fieldLink "HalfOrdersModel" (65 : Nat) "HalfOrdersModel" "inverse" "[I") ∈ mw_tbl := mwt_5 107 rfl rfl
set_option maxRecDepth 100000 in
theorem w1206 : (Jvm.Cond.superclass "HalfOrdersModel" "java/lang/Object") ∈ mw_tbl := mwt_5 162 rfl rfl
set_option maxRecDepth 100000 in
theorem w1211 : (Jvm.Cond.methodLink "HalfOrdersModel" (74 : Nat) ({ cls := "HalfOrdersModel", name := "in", desc := "(III)Z" } : Jvm.MethodName)) ∈ mw_tbl := mwt_5 167 rfl rfl
set_option maxRecDepth 100000 in
theorem w1212 : (Jvm.Cond.static ({ cls := "HalfOrdersModel", name := "in", desc := "(III)Z" } : Jvm.MethodName)) ∈ mw_tbl := mwt_5 168 rfl rfl
set_option maxRecDepth 100000 in
theorem w1213 : (Jvm.Cond.code ({ cls := "HalfOrdersModel", name := "in", desc := "(III)Z" } : Jvm.MethodName) prog_14_method_2_code (3 : Nat) (Option.some Jvm.ClassFile.FieldType.boolean)) ∈ mw_tbl := mwt_5 169 rfl rfl
set_option maxRecDepth 100000 in
theorem w1214 : (Jvm.Cond.methodLink "HalfOrdersModel" (100 : Nat) ({ cls := "HalfOrdersModel", name := "newOrder", desc := "(II)I" } : Jvm.MethodName)) ∈ mw_tbl := mwt_5 170 rfl rfl
set_option maxRecDepth 100000 in
theorem w1216 : (Jvm.Cond.instanceMethod ({ cls := "HalfOrdersModel", name := "newOrder", desc := "(II)I" } : Jvm.MethodName)) ∈ mw_tbl := mwt_5 172 rfl rfl
set_option maxRecDepth 100000 in
theorem w1217 : (Jvm.Cond.code ({ cls := "HalfOrdersModel", name := "newOrder", desc := "(II)I" } : Jvm.MethodName) prog_14_method_12_code (4 : Nat) (Option.some Jvm.ClassFile.FieldType.int)) ∈ mw_tbl := mwt_5 173 rfl rfl
set_option maxRecDepth 100000 in
theorem w1218 : (Jvm.Cond.methodLink "HalfOrdersModel" (89 : Nat) ({ cls := "HalfOrdersModel", name := "refused", desc := "(I)I" } : Jvm.MethodName)) ∈ mw_tbl := mwt_5 174 rfl rfl
set_option maxRecDepth 100000 in
theorem w1220 : (Jvm.Cond.instanceMethod ({ cls := "HalfOrdersModel", name := "refused", desc := "(I)I" } : Jvm.MethodName)) ∈ mw_tbl := mwt_5 176 rfl rfl
set_option maxRecDepth 100000 in
theorem w1221 : (Jvm.Cond.code ({ cls := "HalfOrdersModel", name := "refused", desc := "(I)I" } : Jvm.MethodName) prog_14_method_3_code (2 : Nat) (Option.some Jvm.ClassFile.FieldType.int)) ∈ mw_tbl := mwt_5 177 rfl rfl
set_option maxRecDepth 100000 in
theorem w1222 : (Jvm.Cond.methodLink "HalfOrdersModel" (97 : Nat) ({ cls := "HalfOrdersModel", name := "done", desc := "(I)I" } : Jvm.MethodName)) ∈ mw_tbl := mwt_5 178 rfl rfl
set_option maxRecDepth 100000 in
theorem w1224 : (Jvm.Cond.instanceMethod ({ cls := "HalfOrdersModel", name := "done", desc := "(I)I" } : Jvm.MethodName)) ∈ mw_tbl := mwt_5 180 rfl rfl
set_option maxRecDepth 100000 in
theorem w1225 : (Jvm.Cond.code ({ cls := "HalfOrdersModel", name := "done", desc := "(I)I" } : Jvm.MethodName) prog_14_method_4_code (2 : Nat) (Option.some Jvm.ClassFile.FieldType.int)) ∈ mw_tbl := mwt_5 181 rfl rfl
set_option maxRecDepth 100000 in
theorem w1230 : (Jvm.Cond.methodLink "HalfOrdersModel" (110 : Nat) ({ cls := "HalfOrdersModel", name := "isThing", desc := "(II)Z" } : Jvm.MethodName)) ∈ mw_tbl := mwt_5 186 rfl rfl
set_option maxRecDepth 100000 in
theorem w1232 : (Jvm.Cond.instanceMethod ({ cls := "HalfOrdersModel", name := "isThing", desc := "(II)Z" } : Jvm.MethodName)) ∈ mw_tbl := mwt_5 188 rfl rfl
set_option maxRecDepth 100000 in
theorem w1233 : (Jvm.Cond.code ({ cls := "HalfOrdersModel", name := "isThing", desc := "(II)Z" } : Jvm.MethodName) prog_14_method_6_code (3 : Nat) (Option.some Jvm.ClassFile.FieldType.boolean)) ∈ mw_tbl := mwt_5 189 rfl rfl
set_option maxRecDepth 100000 in
theorem w1234 : (Jvm.Cond.methodLink "HalfOrdersModel" (78 : Nat) ({ cls := "HalfOrdersModel", name := "isOrder", desc := "(I)Z" } : Jvm.MethodName)) ∈ mw_tbl := mwt_5 190 rfl rfl
set_option maxRecDepth 100000 in
theorem w1236 : (Jvm.Cond.instanceMethod ({ cls := "HalfOrdersModel", name := "isOrder", desc := "(I)Z" } : Jvm.MethodName)) ∈ mw_tbl := mwt_5 192 rfl rfl
set_option maxRecDepth 100000 in
theorem w1237 : (Jvm.Cond.code ({ cls := "HalfOrdersModel", name := "isOrder", desc := "(I)Z" } : Jvm.MethodName) prog_14_method_5_code (2 : Nat) (Option.some Jvm.ClassFile.FieldType.boolean)) ∈ mw_tbl := mwt_5 193 rfl rfl
set_option maxRecDepth 100000 in
theorem w1238 : (Jvm.Cond.methodLink "HalfOrdersModel" (86 : Nat) ({ cls := "HalfOrdersModel", name := "isBelow", desc := "(III)Z" } : Jvm.MethodName)) ∈ mw_tbl := mwt_5 194 rfl rfl
set_option maxRecDepth 100000 in
theorem w1240 : (Jvm.Cond.instanceMethod ({ cls := "HalfOrdersModel", name := "isBelow", desc := "(III)Z" } : Jvm.MethodName)) ∈ mw_tbl := mwt_5 196 rfl rfl
set_option maxRecDepth 100000 in
theorem w1241 : (Jvm.Cond.code ({ cls := "HalfOrdersModel", name := "isBelow", desc := "(III)Z" } : Jvm.MethodName) prog_14_method_9_code (4 : Nat) (Option.some Jvm.ClassFile.FieldType.boolean)) ∈ mw_tbl := mwt_5 197 rfl rfl
set_option maxRecDepth 100000 in
theorem w1242 : (Jvm.Cond.methodLink "HalfOrdersModel" (82 : Nat) ({ cls := "HalfOrdersModel", name := "has", desc := "(II)Z" } : Jvm.MethodName)) ∈ mw_tbl := mwt_5 198 rfl rfl
set_option maxRecDepth 100000 in
theorem w1243 : (Jvm.Cond.static ({ cls := "HalfOrdersModel", name := "has", desc := "(II)Z" } : Jvm.MethodName)) ∈ mw_tbl := mwt_5 199 rfl rfl
set_option maxRecDepth 100000 in
theorem w1244 : (Jvm.Cond.code ({ cls := "HalfOrdersModel", name := "has", desc := "(II)Z" } : Jvm.MethodName) prog_14_method_7_code (2 : Nat) (Option.some Jvm.ClassFile.FieldType.boolean)) ∈ mw_tbl := mwt_5 200 rfl rfl
set_option maxRecDepth 100000 in
theorem w1245 : (Jvm.Cond.methodLink "HalfOrdersModel" (113 : Nat) ({ cls := "HalfOrdersModel", name := "findRound", desc := "(III)V" } : Jvm.MethodName)) ∈ mw_tbl := mwt_5 201 rfl rfl
set_option maxRecDepth 100000 in
theorem w1247 : (Jvm.Cond.instanceMethod ({ cls := "HalfOrdersModel", name := "findRound", desc := "(III)V" } : Jvm.MethodName)) ∈ mw_tbl := mwt_5 203 rfl rfl
set_option maxRecDepth 100000 in
theorem w1248 : (Jvm.Cond.code ({ cls := "HalfOrdersModel", name := "findRound", desc := "(III)V" } : Jvm.MethodName) prog_14_method_15_code (7 : Nat) (Option.none : Option Jvm.ClassFile.FieldType)) ∈ mw_tbl := mwt_5 204 rfl rfl
set_option maxRecDepth 100000 in
theorem w1249 : (Jvm.Cond.methodLink "HalfOrdersModel" (104 : Nat) ({ cls := "HalfOrdersModel", name := "isNext", desc := "(III)Z" } : Jvm.MethodName)) ∈ mw_tbl := mwt_5 205 rfl rfl
set_option maxRecDepth 100000 in
theorem w1251 : (Jvm.Cond.instanceMethod ({ cls := "HalfOrdersModel", name := "isNext", desc := "(III)Z" } : Jvm.MethodName)) ∈ mw_tbl := mwt_5 207 rfl rfl
set_option maxRecDepth 100000 in
theorem w1252 : (Jvm.Cond.code ({ cls := "HalfOrdersModel", name := "isNext", desc := "(III)Z" } : Jvm.MethodName) prog_14_method_11_code (6 : Nat) (Option.some Jvm.ClassFile.FieldType.boolean)) ∈ mw_tbl := mwt_5 208 rfl rfl
set_option maxRecDepth 100000 in
theorem w1253 : (Jvm.Cond.methodLink "HalfOrdersModel" (117 : Nat) ({ cls := "HalfOrdersModel", name := "tell", desc := "(III)V" } : Jvm.MethodName)) ∈ mw_tbl := mwt_5 209 rfl rfl
set_option maxRecDepth 100000 in
theorem w1255 : (Jvm.Cond.instanceMethod ({ cls := "HalfOrdersModel", name := "tell", desc := "(III)V" } : Jvm.MethodName)) ∈ mw_tbl := mwt_5 211 rfl rfl
set_option maxRecDepth 100000 in
theorem w1256 : (Jvm.Cond.code ({ cls := "HalfOrdersModel", name := "tell", desc := "(III)V" } : Jvm.MethodName) prog_14_method_14_code (6 : Nat) (Option.none : Option Jvm.ClassFile.FieldType)) ∈ mw_tbl := mwt_5 212 rfl rfl
set_option maxRecDepth 100000 in
theorem w1265 : (Jvm.Cond.methodLink "HalfOrdersModel" (120 : Nat) ({ cls := "HalfOrdersModel", name := "sideBySide", desc := "(IIZ)I" } : Jvm.MethodName)) ∈ mw_tbl := mwt_5 221 rfl rfl
set_option maxRecDepth 100000 in
theorem w1267 : (Jvm.Cond.instanceMethod ({ cls := "HalfOrdersModel", name := "sideBySide", desc := "(IIZ)I" } : Jvm.MethodName)) ∈ mw_tbl := mwt_5 223 rfl rfl
set_option maxRecDepth 100000 in
theorem w1268 : (Jvm.Cond.code ({ cls := "HalfOrdersModel", name := "sideBySide", desc := "(IIZ)I" } : Jvm.MethodName) prog_14_method_18_code (7 : Nat) (Option.some Jvm.ClassFile.FieldType.int)) ∈ mw_tbl := mwt_5 224 rfl rfl
set_option maxRecDepth 100000 in
theorem w1281 : (Jvm.Cond.methodLink "HalfOrdersModel" (127 : Nat) ({ cls := "HalfOrdersModel", name := "lowSets", desc := "(I)I" } : Jvm.MethodName)) ∈ mw_tbl := mwt_5 237 rfl rfl
set_option maxRecDepth 100000 in
theorem w1283 : (Jvm.Cond.instanceMethod ({ cls := "HalfOrdersModel", name := "lowSets", desc := "(I)I" } : Jvm.MethodName)) ∈ mw_tbl := mwt_5 239 rfl rfl
set_option maxRecDepth 100000 in
theorem w1284 : (Jvm.Cond.code ({ cls := "HalfOrdersModel", name := "lowSets", desc := "(I)I" } : Jvm.MethodName) prog_14_method_23_code (4 : Nat) (Option.some Jvm.ClassFile.FieldType.int)) ∈ mw_tbl := mwt_6 0 rfl rfl
set_option maxRecDepth 100000 in
theorem w1285 : (Jvm.Cond.methodLink "HalfOrdersModel" (124 : Nat) ({ cls := "HalfOrdersModel", name := "isLow", desc := "(II)Z" } : Jvm.MethodName)) ∈ mw_tbl := mwt_6 1 rfl rfl
set_option maxRecDepth 100000 in
theorem w1287 : (Jvm.Cond.instanceMethod ({ cls := "HalfOrdersModel", name := "isLow", desc := "(II)Z" } : Jvm.MethodName)) ∈ mw_tbl := mwt_6 3 rfl rfl
set_option maxRecDepth 100000 in
theorem w1288 : (Jvm.Cond.code ({ cls := "HalfOrdersModel", name := "isLow", desc := "(II)Z" } : Jvm.MethodName) prog_14_method_22_code (5 : Nat) (Option.some Jvm.ClassFile.FieldType.boolean)) ∈ mw_tbl := mwt_6 4 rfl rfl
set_option maxRecDepth 100000 in
theorem w1289 : (Jvm.Cond.methodLink "HalfOrdersModel" (130 : Nat) ({ cls := "HalfOrdersModel", name := "lowSet", desc := "(II)I" } : Jvm.MethodName)) ∈ mw_tbl := mwt_6 5 rfl rfl
set_option maxRecDepth 100000 in
theorem w1291 : (Jvm.Cond.instanceMethod ({ cls := "HalfOrdersModel", name := "lowSet", desc := "(II)I" } : Jvm.MethodName)) ∈ mw_tbl := mwt_6 7 rfl rfl
set_option maxRecDepth 100000 in
theorem w1292 : (Jvm.Cond.code ({ cls := "HalfOrdersModel", name := "lowSet", desc := "(II)I" } : Jvm.MethodName) prog_14_method_24_code (5 : Nat) (Option.some Jvm.ClassFile.FieldType.int)) ∈ mw_tbl := mwt_6 8 rfl rfl
set_option maxRecDepth 100000 in
theorem w1305 : (Jvm.Cond.methodLink "HalfOrdersModel" (133 : Nat) ({ cls := "HalfOrdersModel", name := "bits", desc := "(I)I" } : Jvm.MethodName)) ∈ mw_tbl := mwt_6 21 rfl rfl
set_option maxRecDepth 100000 in
theorem w1306 : (Jvm.Cond.static ({ cls := "HalfOrdersModel", name := "bits", desc := "(I)I" } : Jvm.MethodName)) ∈ mw_tbl := mwt_6 22 rfl rfl
set_option maxRecDepth 100000 in
theorem w1307 : (Jvm.Cond.code ({ cls := "HalfOrdersModel", name := "bits", desc := "(I)I" } : Jvm.MethodName) prog_14_method_8_code (3 : Nat) (Option.some Jvm.ClassFile.FieldType.int)) ∈ mw_tbl := mwt_6 23 rfl rfl
set_option maxRecDepth 100000 in
theorem w1308 : (Jvm.Cond.methodLink "HalfOrdersModel" (136 : Nat) ({ cls := "HalfOrdersModel", name := "nth", desc := "(II)I" } : Jvm.MethodName)) ∈ mw_tbl := mwt_6 24 rfl rfl
set_option maxRecDepth 100000 in
theorem w1309 : (Jvm.Cond.static ({ cls := "HalfOrdersModel", name := "nth", desc := "(II)I" } : Jvm.MethodName)) ∈ mw_tbl := mwt_6 25 rfl rfl
set_option maxRecDepth 100000 in
theorem w1310 : (Jvm.Cond.code ({ cls := "HalfOrdersModel", name := "nth", desc := "(II)I" } : Jvm.MethodName) prog_14_method_28_code (4 : Nat) (Option.some Jvm.ClassFile.FieldType.int)) ∈ mw_tbl := mwt_6 26 rfl rfl
set_option maxRecDepth 100000 in
theorem w1319 : (Jvm.Cond.methodLink "HalfOrdersModel" (152 : Nat) ({ cls := "HalfOrdersModel", name := "find", desc := "(II)Z" } : Jvm.MethodName)) ∈ mw_tbl := mwt_6 35 rfl rfl
set_option maxRecDepth 100000 in
theorem w1321 : (Jvm.Cond.instanceMethod ({ cls := "HalfOrdersModel", name := "find", desc := "(II)Z" } : Jvm.MethodName)) ∈ mw_tbl := mwt_6 37 rfl rfl
set_option maxRecDepth 100000 in
theorem w1322 : (Jvm.Cond.code ({ cls := "HalfOrdersModel", name := "find", desc := "(II)Z" } : Jvm.MethodName) prog_14_method_35_code (8 : Nat) (Option.some Jvm.ClassFile.FieldType.boolean)) ∈ mw_tbl := mwt_6 38 rfl rfl
set_option maxRecDepth 100000 in
theorem w1323 : (Jvm.Cond.methodLink "HalfOrdersModel" (149 : Nat) ({ cls := "HalfOrdersModel", name := "count0", desc := "(I)I" } : Jvm.MethodName)) ∈ mw_tbl := mwt_6 39 rfl rfl
set_option maxRecDepth 100000 in
theorem w1325 : (Jvm.Cond.instanceMethod ({ cls := "HalfOrdersModel", name := "count0", desc := "(I)I" } : Jvm.MethodName)) ∈ mw_tbl := mwt_6 41 rfl rfl
set_option maxRecDepth 100000 in
theorem w1326 : (Jvm.Cond.code ({ cls := "HalfOrdersModel", name := "count0", desc := "(I)I" } : Jvm.MethodName) prog_14_method_33_code (2 : Nat) (Option.some Jvm.ClassFile.FieldType.int)) ∈ mw_tbl := mwt_6 42 rfl rfl
set_option maxRecDepth 100000 in
theorem w1327 : (Jvm.Cond.methodLink "HalfOrdersModel" (146 : Nat) ({ cls := "HalfOrdersModel", name := "layAll", desc := "(III)V" } : Jvm.MethodName)) ∈ mw_tbl := mwt_6 43 rfl rfl
set_option maxRecDepth 100000 in
theorem w1329 : (Jvm.Cond.instanceMethod ({ cls := "HalfOrdersModel", name := "layAll", desc := "(III)V" } : Jvm.MethodName)) ∈ mw_tbl := mwt_6 45 rfl rfl
set_option maxRecDepth 100000 in
theorem w1330 : (Jvm.Cond.code ({ cls := "HalfOrdersModel", name := "layAll", desc := "(III)V" } : Jvm.MethodName) prog_14_method_31_code (7 : Nat) (Option.none : Option Jvm.ClassFile.FieldType)) ∈ mw_tbl := mwt_6 46 rfl rfl
set_option maxRecDepth 100000 in
theorem w1331 : (Jvm.Cond.methodLink "HalfOrdersModel" (142 : Nat) ({ cls := "HalfOrdersModel", name := "may", desc := "(IIIII)Z" } : Jvm.MethodName)) ∈ mw_tbl := mwt_6 47 rfl rfl
set_option maxRecDepth 100000 in
theorem w1333 : (Jvm.Cond.instanceMethod ({ cls := "HalfOrdersModel", name := "may", desc := "(IIIII)Z" } : Jvm.MethodName)) ∈ mw_tbl := mwt_6 49 rfl rfl
set_option maxRecDepth 100000 in
theorem w1334 : (Jvm.Cond.code ({ cls := "HalfOrdersModel", name := "may", desc := "(IIIII)Z" } : Jvm.MethodName) prog_14_method_32_code (6 : Nat) (Option.some Jvm.ClassFile.FieldType.boolean)) ∈ mw_tbl := mwt_6 50 rfl rfl
set_option maxRecDepth 100000 in
theorem w1336 : (Jvm.Cond.instanceMethod ({ cls := "HalfOrdersModel", name := "before", desc := "(III)I" } : Jvm.MethodName)) ∈ mw_tbl := mwt_6 52 rfl rfl
set_option maxRecDepth 100000 in
theorem w1337 : (Jvm.Cond.selects "HalfOrdersModel" ({ cls := "HalfOrdersModel", name := "before", desc := "(III)I" } : Jvm.MethodName) ({ cls := "HalfOrdersModel", name := "before", desc := "(III)I" } : Jvm.MethodName)) ∈ mw_tbl := mwt_6 53 rfl rfl
set_option maxRecDepth 100000 in
theorem w1338 : (Jvm.Cond.code ({ cls := "HalfOrdersModel", name := "before", desc := "(III)I" } : Jvm.MethodName) prog_14_method_37_code (4 : Nat) (Option.some Jvm.ClassFile.FieldType.int)) ∈ mw_tbl := mwt_6 54 rfl rfl
set_option maxRecDepth 100000 in
theorem w1343 : (Jvm.Cond.constantLong "HalfOrdersModel" (155 : Nat) (-1 : Int64)) ∈ mw_tbl := mwt_6 59 rfl rfl
set_option maxRecDepth 100000 in
theorem w1348 : (Jvm.Cond.methodLink "HalfOrdersModel" (157 : Nat) ({ cls := "HalfOrdersModel", name := "isApart", desc := "(III)Z" } : Jvm.MethodName)) ∈ mw_tbl := mwt_6 64 rfl rfl
set_option maxRecDepth 100000 in
theorem w1350 : (Jvm.Cond.instanceMethod ({ cls := "HalfOrdersModel", name := "isApart", desc := "(III)Z" } : Jvm.MethodName)) ∈ mw_tbl := mwt_6 66 rfl rfl
set_option maxRecDepth 100000 in
theorem w1351 : (Jvm.Cond.code ({ cls := "HalfOrdersModel", name := "isApart", desc := "(III)Z" } : Jvm.MethodName) prog_14_method_10_code (4 : Nat) (Option.some Jvm.ClassFile.FieldType.boolean)) ∈ mw_tbl := mwt_6 67 rfl rfl
set_option maxRecDepth 100000 in
theorem w1352 : (Jvm.Cond.methodLink "HalfOrdersModel" (160 : Nat) ({ cls := "HalfOrdersModel", name := "before", desc := "(III)I" } : Jvm.MethodName)) ∈ mw_tbl := mwt_6 68 rfl rfl
set_option maxRecDepth 100000 in
theorem w1353 : (Jvm.Cond.constantLong "HalfOrdersModel" (164 : Nat) (11 : Int64)) ∈ mw_tbl := mwt_6 69 rfl rfl
set_option maxRecDepth 100000 in
theorem w1354 : (Jvm.Cond.constantLong "HalfOrdersModel" (166 : Nat) (3 : Int64)) ∈ mw_tbl := mwt_6 70 rfl rfl
set_option maxRecDepth 100000 in
theorem w1355 : (Jvm.Cond.constantLong "HalfOrdersModel" (168 : Nat) (8 : Int64)) ∈ mw_tbl := mwt_6 71 rfl rfl
set_option maxRecDepth 100000 in
theorem w1360 : (Jvm.Cond.methodLink "HalfOrdersModel" (176 : Nat) ({ cls := "HalfOrdersModel", name := "widest0", desc := "(I)I" } : Jvm.MethodName)) ∈ mw_tbl := mwt_6 76 rfl rfl
set_option maxRecDepth 100000 in
theorem w1362 : (Jvm.Cond.instanceMethod ({ cls := "HalfOrdersModel", name := "widest0", desc := "(I)I" } : Jvm.MethodName)) ∈ mw_tbl := mwt_6 78 rfl rfl
set_option maxRecDepth 100000 in
theorem w1363 : (Jvm.Cond.code ({ cls := "HalfOrdersModel", name := "widest0", desc := "(I)I" } : Jvm.MethodName) prog_14_method_42_code (5 : Nat) (Option.some Jvm.ClassFile.FieldType.int)) ∈ mw_tbl := mwt_6 79 rfl rfl
set_option maxRecDepth 100000 in
theorem w1364 : (Jvm.Cond.methodLink "HalfOrdersModel" (170 : Nat) ({ cls := "HalfOrdersModel", name := "isAntichain", desc := "(II)Z" } : Jvm.MethodName)) ∈ mw_tbl := mwt_6 80 rfl rfl
set_option maxRecDepth 100000 in
theorem w1366 : (Jvm.Cond.instanceMethod ({ cls := "HalfOrdersModel", name := "isAntichain", desc := "(II)Z" } : Jvm.MethodName)) ∈ mw_tbl := mwt_6 82 rfl rfl
set_option maxRecDepth 100000 in
theorem w1367 : (Jvm.Cond.code ({ cls := "HalfOrdersModel", name := "isAntichain", desc := "(II)Z" } : Jvm.MethodName) prog_14_method_40_code (5 : Nat) (Option.some Jvm.ClassFile.FieldType.boolean)) ∈ mw_tbl := mwt_6 83 rfl rfl
set_option maxRecDepth 100000 in
theorem w1368 : (Jvm.Cond.methodLink "HalfOrdersModel" (173 : Nat) ({ cls := "HalfOrdersModel", name := "isAhead", desc := "(II)Z" } : Jvm.MethodName)) ∈ mw_tbl := mwt_6 84 rfl rfl
set_option maxRecDepth 100000 in
theorem w1369 : (Jvm.Cond.static ({ cls := "HalfOrdersModel", name := "isAhead", desc := "(II)Z" } : Jvm.MethodName)) ∈ mw_tbl := mwt_6 85 rfl rfl
set_option maxRecDepth 100000 in
theorem w1370 : (Jvm.Cond.code ({ cls := "HalfOrdersModel", name := "isAhead", desc := "(II)Z" } : Jvm.MethodName) prog_14_method_41_code (3 : Nat) (Option.some Jvm.ClassFile.FieldType.boolean)) ∈ mw_tbl := mwt_6 86 rfl rfl
set_option maxRecDepth 100000 in
theorem w1375 : (Jvm.Cond.methodLink "HalfOrdersModel" (179 : Nat) ({ cls := "HalfOrdersModel", name := "layer", desc := "(II)I" } : Jvm.MethodName)) ∈ mw_tbl := mwt_6 91 rfl rfl
set_option maxRecDepth 100000 in
theorem w1377 : (Jvm.Cond.instanceMethod ({ cls := "HalfOrdersModel", name := "layer", desc := "(II)I" } : Jvm.MethodName)) ∈ mw_tbl := mwt_6 93 rfl rfl
set_option maxRecDepth 100000 in
theorem w1378 : (Jvm.Cond.code ({ cls := "HalfOrdersModel", name := "layer", desc := "(II)I" } : Jvm.MethodName) prog_14_method_44_code (8 : Nat) (Option.some Jvm.ClassFile.FieldType.int)) ∈ mw_tbl := mwt_6 94 rfl rfl
set_option maxRecDepth 100000 in
theorem w1379 : (Jvm.Cond.methodLink "HalfOrdersModel" (186 : Nat) ({ cls := "HalfOrdersModel", name := "findChains", desc := "(I)V" } : Jvm.MethodName)) ∈ mw_tbl := mwt_6 95 rfl rfl
set_option maxRecDepth 100000 in
theorem w1381 : (Jvm.Cond.instanceMethod ({ cls := "HalfOrdersModel", name := "findChains", desc := "(I)V" } : Jvm.MethodName)) ∈ mw_tbl := mwt_6 97 rfl rfl
set_option maxRecDepth 100000 in
theorem w1382 : (Jvm.Cond.code ({ cls := "HalfOrdersModel", name := "findChains", desc := "(I)V" } : Jvm.MethodName) prog_14_method_47_code (4 : Nat) (Option.none : Option Jvm.ClassFile.FieldType)) ∈ mw_tbl := mwt_6 98 rfl rfl
set_option maxRecDepth 100000 in
theorem w1383 : (Jvm.Cond.methodLink "HalfOrdersModel" (182 : Nat) ({ cls := "HalfOrdersModel", name := "fitsChain", desc := "(IIII)Z" } : Jvm.MethodName)) ∈ mw_tbl := mwt_6 99 rfl rfl
set_option maxRecDepth 100000 in
theorem w1385 : (Jvm.Cond.instanceMethod ({ cls := "HalfOrdersModel", name := "fitsChain", desc := "(IIII)Z" } : Jvm.MethodName)) ∈ mw_tbl := mwt_6 101 rfl rfl
set_option maxRecDepth 100000 in
theorem w1386 : (Jvm.Cond.code ({ cls := "HalfOrdersModel", name := "fitsChain", desc := "(IIII)Z" } : Jvm.MethodName) prog_14_method_46_code (7 : Nat) (Option.some Jvm.ClassFile.FieldType.boolean)) ∈ mw_tbl := mwt_6 102 rfl rfl
set_option maxRecDepth 100000 in
theorem w1391 : (Jvm.Cond.methodLink "HalfOrdersModel" (199 : Nat) ({ cls := "HalfOrdersModel", name := "findTwo", desc := "(I)V" } : Jvm.MethodName)) ∈ mw_tbl := mwt_6 107 rfl rfl
set_option maxRecDepth 100000 in
theorem w1393 : (Jvm.Cond.instanceMethod ({ cls := "HalfOrdersModel", name := "findTwo", desc := "(I)V" } : Jvm.MethodName)) ∈ mw_tbl := mwt_6 109 rfl rfl
set_option maxRecDepth 100000 in
theorem w1394 : (Jvm.Cond.code ({ cls := "HalfOrdersModel", name := "findTwo", desc := "(I)V" } : Jvm.MethodName) prog_14_method_50_code (7 : Nat) (Option.none : Option Jvm.ClassFile.FieldType)) ∈ mw_tbl := mwt_6 110 rfl rfl
set_option maxRecDepth 100000 in
theorem w1395 : (Jvm.Cond.methodLink "HalfOrdersModel" (193 : Nat) ({ cls := "HalfOrdersModel", name := "fitsTwo", desc := "(III)Z" } : Jvm.MethodName)) ∈ mw_tbl := mwt_6 111 rfl rfl
set_option maxRecDepth 100000 in
theorem w1397 : (Jvm.Cond.instanceMethod ({ cls := "HalfOrdersModel", name := "fitsTwo", desc := "(III)Z" } : Jvm.MethodName)) ∈ mw_tbl := mwt_6 113 rfl rfl
set_option maxRecDepth 100000 in
theorem w1398 : (Jvm.Cond.code ({ cls := "HalfOrdersModel", name := "fitsTwo", desc := "(III)Z" } : Jvm.MethodName) prog_14_method_49_code (7 : Nat) (Option.some Jvm.ClassFile.FieldType.boolean)) ∈ mw_tbl := mwt_6 114 rfl rfl
set_option maxRecDepth 100000 in
theorem w1403 : (Jvm.Cond.methodLink "HalfOrdersModel" (205 : Nat) ({ cls := "HalfOrdersModel", name := "bound0", desc := "(IIII)I" } : Jvm.MethodName)) ∈ mw_tbl := mwt_6 119 rfl rfl
set_option maxRecDepth 100000 in
theorem w1405 : (Jvm.Cond.instanceMethod ({ cls := "HalfOrdersModel", name := "bound0", desc := "(IIII)I" } : Jvm.MethodName)) ∈ mw_tbl := mwt_6 121 rfl rfl
set_option maxRecDepth 100000 in
theorem w1406 : (Jvm.Cond.code ({ cls := "HalfOrdersModel", name := "bound0", desc := "(IIII)I" } : Jvm.MethodName) prog_14_method_52_code (9 : Nat) (Option.some Jvm.ClassFile.FieldType.int)) ∈ mw_tbl := mwt_6 122 rfl rfl
set_option maxRecDepth 100000 in
theorem w1407 : (Jvm.Cond.methodLink "HalfOrdersModel" (202 : Nat) ({ cls := "HalfOrdersModel", name := "isOn", desc := "(IIII)Z" } : Jvm.MethodName)) ∈ mw_tbl := mwt_6 123 rfl rfl
set_option maxRecDepth 100000 in
theorem w1409 : (Jvm.Cond.instanceMethod ({ cls := "HalfOrdersModel", name := "isOn", desc := "(IIII)Z" } : Jvm.MethodName)) ∈ mw_tbl := mwt_6 125 rfl rfl
set_option maxRecDepth 100000 in
theorem w1410 : (Jvm.Cond.code ({ cls := "HalfOrdersModel", name := "isOn", desc := "(IIII)Z" } : Jvm.MethodName) prog_14_method_53_code (5 : Nat) (Option.some Jvm.ClassFile.FieldType.boolean)) ∈ mw_tbl := mwt_6 126 rfl rfl
set_option maxRecDepth 100000 in
theorem w1415 : (Jvm.Cond.methodLink "HalfOrdersModel" (209 : Nat) ({ cls := "HalfOrdersModel", name := "isLattice", desc := "(I)Z" } : Jvm.MethodName)) ∈ mw_tbl := mwt_6 131 rfl rfl
set_option maxRecDepth 100000 in
theorem w1417 : (Jvm.Cond.instanceMethod ({ cls := "HalfOrdersModel", name := "isLattice", desc := "(I)Z" } : Jvm.MethodName)) ∈ mw_tbl := mwt_6 133 rfl rfl
set_option maxRecDepth 100000 in
theorem w1418 : (Jvm.Cond.code ({ cls := "HalfOrdersModel", name := "isLattice", desc := "(I)Z" } : Jvm.MethodName) prog_14_method_55_code (5 : Nat) (Option.some Jvm.ClassFile.FieldType.boolean)) ∈ mw_tbl := mwt_6 134 rfl rfl
set_option maxRecDepth 100000 in
theorem w1419 : (Jvm.Cond.methodLink "HalfOrdersModel" (212 : Nat) ({ cls := "HalfOrdersModel", name := "uneven0", desc := "(I)I" } : Jvm.MethodName)) ∈ mw_tbl := mwt_6 135 rfl rfl
set_option maxRecDepth 100000 in
theorem w1421 : (Jvm.Cond.instanceMethod ({ cls := "HalfOrdersModel", name := "uneven0", desc := "(I)I" } : Jvm.MethodName)) ∈ mw_tbl := mwt_6 137 rfl rfl
set_option maxRecDepth 100000 in
theorem w1422 : (Jvm.Cond.code ({ cls := "HalfOrdersModel", name := "uneven0", desc := "(I)I" } : Jvm.MethodName) prog_14_method_56_code (7 : Nat) (Option.some Jvm.ClassFile.FieldType.int)) ∈ mw_tbl := mwt_6 138 rfl rfl
set_option maxRecDepth 100000 in
theorem w1424 : (Jvm.Cond.instanceMethod ({ cls := "HalfOrdersModel", name := "bent", desc := "(I)I" } : Jvm.MethodName)) ∈ mw_tbl := mwt_6 140 rfl rfl
set_option maxRecDepth 100000 in
theorem w1425 : (Jvm.Cond.selects "HalfOrdersModel" ({ cls := "HalfOrdersModel", name := "bent", desc := "(I)I" } : Jvm.MethodName) ({ cls := "HalfOrdersModel", name := "bent", desc := "(I)I" } : Jvm.MethodName)) ∈ mw_tbl := mwt_6 141 rfl rfl
set_option maxRecDepth 100000 in
theorem w1426 : (Jvm.Cond.code ({ cls := "HalfOrdersModel", name := "bent", desc := "(I)I" } : Jvm.MethodName) prog_14_method_59_code (8 : Nat) (Option.some Jvm.ClassFile.FieldType.int)) ∈ mw_tbl := mwt_6 142 rfl rfl
set_option maxRecDepth 100000 in
theorem w1427 : (Jvm.Cond.methodLink "HalfOrdersModel" (215 : Nat) ({ cls := "HalfOrdersModel", name := "isBent", desc := "(IIIII)Z" } : Jvm.MethodName)) ∈ mw_tbl := mwt_6 143 rfl rfl
set_option maxRecDepth 100000 in
theorem w1429 : (Jvm.Cond.instanceMethod ({ cls := "HalfOrdersModel", name := "isBent", desc := "(IIIII)Z" } : Jvm.MethodName)) ∈ mw_tbl := mwt_6 145 rfl rfl
set_option maxRecDepth 100000 in
theorem w1430 : (Jvm.Cond.code ({ cls := "HalfOrdersModel", name := "isBent", desc := "(IIIII)Z" } : Jvm.MethodName) prog_14_method_58_code (7 : Nat) (Option.some Jvm.ClassFile.FieldType.boolean)) ∈ mw_tbl := mwt_6 146 rfl rfl
set_option maxRecDepth 100000 in
theorem w1435 : (Jvm.Cond.constant "HalfOrdersModel" (218 : Nat) (-1000000 : Int32)) ∈ mw_tbl := mwt_6 151 rfl rfl
set_option maxRecDepth 100000 in
theorem w1440 : (Jvm.Cond.methodLink "HalfOrdersModel" (219 : Nat) ({ cls := "HalfOrdersModel", name := "levelOf", desc := "(II)I" } : Jvm.MethodName)) ∈ mw_tbl := mwt_6 156 rfl rfl
set_option maxRecDepth 100000 in
theorem w1442 : (Jvm.Cond.instanceMethod ({ cls := "HalfOrdersModel", name := "levelOf", desc := "(II)I" } : Jvm.MethodName)) ∈ mw_tbl := mwt_6 158 rfl rfl
set_option maxRecDepth 100000 in
theorem w1443 : (Jvm.Cond.code ({ cls := "HalfOrdersModel", name := "levelOf", desc := "(II)I" } : Jvm.MethodName) prog_14_method_61_code (5 : Nat) (Option.some Jvm.ClassFile.FieldType.int)) ∈ mw_tbl := mwt_6 159 rfl rfl
set_option maxRecDepth 100000 in
theorem w1444 : (Jvm.Cond.methodLink "HalfOrdersModel" (222 : Nat) ({ cls := "HalfOrdersModel", name := "ofLevel", desc := "(II)I" } : Jvm.MethodName)) ∈ mw_tbl := mwt_6 160 rfl rfl
set_option maxRecDepth 100000 in
theorem w1446 : (Jvm.Cond.instanceMethod ({ cls := "HalfOrdersModel", name := "ofLevel", desc := "(II)I" } : Jvm.MethodName)) ∈ mw_tbl := mwt_6 162 rfl rfl
set_option maxRecDepth 100000 in
theorem w1447 : (Jvm.Cond.code ({ cls := "HalfOrdersModel", name := "ofLevel", desc := "(II)I" } : Jvm.MethodName) prog_14_method_62_code (5 : Nat) (Option.some Jvm.ClassFile.FieldType.int)) ∈ mw_tbl := mwt_6 163 rfl rfl
set_option maxRecDepth 100000 in
theorem w1448 : (Jvm.Cond.methodLink "HalfOrdersModel" (225 : Nat) ({ cls := "HalfOrdersModel", name := "fitsMap", desc := "(IIII)Z" } : Jvm.MethodName)) ∈ mw_tbl := mwt_6 164 rfl rfl
set_option maxRecDepth 100000 in
theorem w1450 : (Jvm.Cond.instanceMethod ({ cls := "HalfOrdersModel", name := "fitsMap", desc := "(IIII)Z" } : Jvm.MethodName)) ∈ mw_tbl := mwt_6 166 rfl rfl
set_option maxRecDepth 100000 in
theorem w1451 : (Jvm.Cond.code ({ cls := "HalfOrdersModel", name := "fitsMap", desc := "(IIII)Z" } : Jvm.MethodName) prog_14_method_63_code (7 : Nat) (Option.some Jvm.ClassFile.FieldType.boolean)) ∈ mw_tbl := mwt_6 167 rfl rfl
set_option maxRecDepth 100000 in
theorem w1456 : (Jvm.Cond.methodLink "HalfOrdersModel" (228 : Nat) ({ cls := "HalfOrdersModel", name := "pairsOf", desc := "(I)I" } : Jvm.MethodName)) ∈ mw_tbl := mwt_6 172 rfl rfl
set_option maxRecDepth 100000 in
theorem w1458 : (Jvm.Cond.instanceMethod ({ cls := "HalfOrdersModel", name := "pairsOf", desc := "(I)I" } : Jvm.MethodName)) ∈ mw_tbl := mwt_6 174 rfl rfl
set_option maxRecDepth 100000 in
theorem w1459 : (Jvm.Cond.code ({ cls := "HalfOrdersModel", name := "pairsOf", desc := "(I)I" } : Jvm.MethodName) prog_14_method_65_code (4 : Nat) (Option.some Jvm.ClassFile.FieldType.int)) ∈ mw_tbl := mwt_6 175 rfl rfl
set_option maxRecDepth 100000 in
theorem w1460 : (Jvm.Cond.methodLink "HalfOrdersModel" (231 : Nat) ({ cls := "HalfOrdersModel", name := "nextsOf", desc := "(I)I" } : Jvm.MethodName)) ∈ mw_tbl := mwt_6 176 rfl rfl
set_option maxRecDepth 100000 in
theorem w1462 : (Jvm.Cond.instanceMethod ({ cls := "HalfOrdersModel", name := "nextsOf", desc := "(I)I" } : Jvm.MethodName)) ∈ mw_tbl := mwt_6 178 rfl rfl
set_option maxRecDepth 100000 in
theorem w1463 : (Jvm.Cond.code ({ cls := "HalfOrdersModel", name := "nextsOf", desc := "(I)I" } : Jvm.MethodName) prog_14_method_66_code (5 : Nat) (Option.some Jvm.ClassFile.FieldType.int)) ∈ mw_tbl := mwt_6 179 rfl rfl
set_option maxRecDepth 100000 in
theorem w1464 : (Jvm.Cond.methodLink "HalfOrdersModel" (234 : Nat) ({ cls := "HalfOrdersModel", name := "height", desc := "(I)I" } : Jvm.MethodName)) ∈ mw_tbl := mwt_6 180 rfl rfl
set_option maxRecDepth 100000 in
theorem w1466 : (Jvm.Cond.instanceMethod ({ cls := "HalfOrdersModel", name := "height", desc := "(I)I" } : Jvm.MethodName)) ∈ mw_tbl := mwt_6 182 rfl rfl
set_option maxRecDepth 100000 in
theorem w1467 : (Jvm.Cond.code ({ cls := "HalfOrdersModel", name := "height", desc := "(I)I" } : Jvm.MethodName) prog_14_method_45_code (5 : Nat) (Option.some Jvm.ClassFile.FieldType.int)) ∈ mw_tbl := mwt_6 183 rfl rfl
set_option maxRecDepth 100000 in
theorem w1468 : (Jvm.Cond.methodLink "HalfOrdersModel" (237 : Nat) ({ cls := "HalfOrdersModel", name := "leastJumps", desc := "(I)I" } : Jvm.MethodName)) ∈ mw_tbl := mwt_6 184 rfl rfl
set_option maxRecDepth 100000 in
theorem w1470 : (Jvm.Cond.instanceMethod ({ cls := "HalfOrdersModel", name := "leastJumps", desc := "(I)I" } : Jvm.MethodName)) ∈ mw_tbl := mwt_6 186 rfl rfl
set_option maxRecDepth 100000 in
theorem w1471 : (Jvm.Cond.code ({ cls := "HalfOrdersModel", name := "leastJumps", desc := "(I)I" } : Jvm.MethodName) prog_14_method_34_code (9 : Nat) (Option.some Jvm.ClassFile.FieldType.int)) ∈ mw_tbl := mwt_6 187 rfl rfl
set_option maxRecDepth 100000 in
theorem w1472 : (Jvm.Cond.methodLink "HalfOrdersModel" (240 : Nat) ({ cls := "HalfOrdersModel", name := "truth", desc := "(II)I" } : Jvm.MethodName)) ∈ mw_tbl := mwt_6 188 rfl rfl
set_option maxRecDepth 100000 in
theorem w1474 : (Jvm.Cond.instanceMethod ({ cls := "HalfOrdersModel", name := "truth", desc := "(II)I" } : Jvm.MethodName)) ∈ mw_tbl := mwt_6 190 rfl rfl
set_option maxRecDepth 100000 in
theorem w1475 : (Jvm.Cond.code ({ cls := "HalfOrdersModel", name := "truth", desc := "(II)I" } : Jvm.MethodName) prog_14_method_68_code (3 : Nat) (Option.some Jvm.ClassFile.FieldType.int)) ∈ mw_tbl := mwt_6 191 rfl rfl
set_option maxRecDepth 100000 in
theorem w1476 : (Jvm.Cond.methodLink "HalfOrdersModel" (243 : Nat) ({ cls := "HalfOrdersModel", name := "bent", desc := "(I)I" } : Jvm.MethodName)) ∈ mw_tbl := mwt_6 192 rfl rfl
set_option maxRecDepth 100000 in
theorem w1501 : (Jvm.Cond.methodLink "HalfOrdersModel" (249 : Nat) ({ cls := "HalfOrdersModel", name := "lacking", desc := "()I" } : Jvm.MethodName)) ∈ mw_tbl := mwt_6 217 rfl rfl
set_option maxRecDepth 100000 in
theorem w1503 : (Jvm.Cond.instanceMethod ({ cls := "HalfOrdersModel", name := "lacking", desc := "()I" } : Jvm.MethodName)) ∈ mw_tbl := mwt_6 219 rfl rfl
set_option maxRecDepth 100000 in
theorem w1504 : (Jvm.Cond.code ({ cls := "HalfOrdersModel", name := "lacking", desc := "()I" } : Jvm.MethodName) prog_14_method_74_code (3 : Nat) (Option.some Jvm.ClassFile.FieldType.int)) ∈ mw_tbl := mwt_6 220 rfl rfl
set_option maxRecDepth 100000 in
theorem w1505 : (Jvm.Cond.methodLink "HalfOrdersModel" (253 : Nat) ({ cls := "HalfOrdersModel", name := "isRowOut", desc := "()Z" } : Jvm.MethodName)) ∈ mw_tbl := mwt_6 221 rfl rfl
set_option maxRecDepth 100000 in
theorem w1507 : (Jvm.Cond.instanceMethod ({ cls := "HalfOrdersModel", name := "isRowOut", desc := "()Z" } : Jvm.MethodName)) ∈ mw_tbl := mwt_6 223 rfl rfl
set_option maxRecDepth 100000 in
theorem w1508 : (Jvm.Cond.code ({ cls := "HalfOrdersModel", name := "isRowOut", desc := "()Z" } : Jvm.MethodName) prog_14_method_75_code (1 : Nat) (Option.some Jvm.ClassFile.FieldType.boolean)) ∈ mw_tbl := mwt_6 224 rfl rfl
set_option maxRecDepth 100000 in
theorem w1509 : (Jvm.Cond.methodLink "HalfOrdersModel" (257 : Nat) ({ cls := "HalfOrdersModel", name := "rank", desc := "()I" } : Jvm.MethodName)) ∈ mw_tbl := mwt_6 225 rfl rfl
set_option maxRecDepth 100000 in
theorem w1511 : (Jvm.Cond.instanceMethod ({ cls := "HalfOrdersModel", name := "rank", desc := "()I" } : Jvm.MethodName)) ∈ mw_tbl := mwt_6 227 rfl rfl
set_option maxRecDepth 100000 in
theorem w1512 : (Jvm.Cond.code ({ cls := "HalfOrdersModel", name := "rank", desc := "()I" } : Jvm.MethodName) prog_14_method_76_code (5 : Nat) (Option.some Jvm.ClassFile.FieldType.int)) ∈ mw_tbl := mwt_6 228 rfl rfl
set_option maxRecDepth 100000 in
theorem w1517 : (Jvm.Cond.methodLink "HalfOrdersModel" (260 : Nat) ({ cls := "HalfOrdersModel", name := "placeOf", desc := "(I)I" } : Jvm.MethodName)) ∈ mw_tbl := mwt_6 233 rfl rfl
set_option maxRecDepth 100000 in
theorem w1519 : (Jvm.Cond.instanceMethod ({ cls := "HalfOrdersModel", name := "placeOf", desc := "(I)I" } : Jvm.MethodName)) ∈ mw_tbl := mwt_6 235 rfl rfl
set_option maxRecDepth 100000 in
theorem w1520 : (Jvm.Cond.code ({ cls := "HalfOrdersModel", name := "placeOf", desc := "(I)I" } : Jvm.MethodName) prog_14_method_78_code (3 : Nat) (Option.some Jvm.ClassFile.FieldType.int)) ∈ mw_tbl := mwt_6 236 rfl rfl
set_option maxRecDepth 100000 in
theorem w1525 : (Jvm.Cond.methodLink "HalfOrdersModel" (272 : Nat) ({ cls := "HalfOrdersModel", name := "look0", desc := "(II)I" } : Jvm.MethodName)) ∈ mw_tbl := mwt_7 1 rfl rfl
set_option maxRecDepth 100000 in
theorem w1527 : (Jvm.Cond.instanceMethod ({ cls := "HalfOrdersModel", name := "look0", desc := "(II)I" } : Jvm.MethodName)) ∈ mw_tbl := mwt_7 3 rfl rfl
set_option maxRecDepth 100000 in
theorem w1528 : (Jvm.Cond.code ({ cls := "HalfOrdersModel", name := "look0", desc := "(II)I" } : Jvm.MethodName) prog_14_method_83_code (3 : Nat) (Option.some Jvm.ClassFile.FieldType.int)) ∈ mw_tbl := mwt_7 4 rfl rfl
set_option maxRecDepth 100000 in
theorem w1529 : (Jvm.Cond.methodLink "HalfOrdersModel" (263 : Nat) ({ cls := "HalfOrdersModel", name := "ran", desc := "(I)V" } : Jvm.MethodName)) ∈ mw_tbl := mwt_7 5 rfl rfl
set_option maxRecDepth 100000 in
theorem w1531 : (Jvm.Cond.instanceMethod ({ cls := "HalfOrdersModel", name := "ran", desc := "(I)V" } : Jvm.MethodName)) ∈ mw_tbl := mwt_7 7 rfl rfl
set_option maxRecDepth 100000 in
theorem w1532 : (Jvm.Cond.code ({ cls := "HalfOrdersModel", name := "ran", desc := "(I)V" } : Jvm.MethodName) prog_14_method_80_code (2 : Nat) (Option.none : Option Jvm.ClassFile.FieldType)) ∈ mw_tbl := mwt_7 8 rfl rfl
set_option maxRecDepth 100000 in
theorem w1533 : (Jvm.Cond.methodLink "HalfOrdersModel" (266 : Nat) ({ cls := "HalfOrdersModel", name := "stackLook", desc := "(II)I" } : Jvm.MethodName)) ∈ mw_tbl := mwt_7 9 rfl rfl
set_option maxRecDepth 100000 in
theorem w1535 : (Jvm.Cond.instanceMethod ({ cls := "HalfOrdersModel", name := "stackLook", desc := "(II)I" } : Jvm.MethodName)) ∈ mw_tbl := mwt_7 11 rfl rfl
set_option maxRecDepth 100000 in
theorem w1536 : (Jvm.Cond.code ({ cls := "HalfOrdersModel", name := "stackLook", desc := "(II)I" } : Jvm.MethodName) prog_14_method_82_code (3 : Nat) (Option.some Jvm.ClassFile.FieldType.int)) ∈ mw_tbl := mwt_7 12 rfl rfl
set_option maxRecDepth 100000 in
theorem w1537 : (Jvm.Cond.methodLink "HalfOrdersModel" (269 : Nat) ({ cls := "HalfOrdersModel", name := "isStack", desc := "(I)Z" } : Jvm.MethodName)) ∈ mw_tbl := mwt_7 13 rfl rfl
set_option maxRecDepth 100000 in
theorem w1539 : (Jvm.Cond.instanceMethod ({ cls := "HalfOrdersModel", name := "isStack", desc := "(I)Z" } : Jvm.MethodName)) ∈ mw_tbl := mwt_7 15 rfl rfl
set_option maxRecDepth 100000 in
theorem w1540 : (Jvm.Cond.code ({ cls := "HalfOrdersModel", name := "isStack", desc := "(I)Z" } : Jvm.MethodName) prog_14_method_81_code (2 : Nat) (Option.some Jvm.ClassFile.FieldType.boolean)) ∈ mw_tbl := mwt_7 16 rfl rfl
set_option maxRecDepth 100000 in
theorem w1541 : (Jvm.Cond.methodLink "HalfOrdersModel" (275 : Nat) ({ cls := "HalfOrdersModel", name := "part0", desc := "(II)I" } : Jvm.MethodName)) ∈ mw_tbl := mwt_7 17 rfl rfl
set_option maxRecDepth 100000 in
theorem w1543 : (Jvm.Cond.instanceMethod ({ cls := "HalfOrdersModel", name := "part0", desc := "(II)I" } : Jvm.MethodName)) ∈ mw_tbl := mwt_7 19 rfl rfl
set_option maxRecDepth 100000 in
theorem w1544 : (Jvm.Cond.code ({ cls := "HalfOrdersModel", name := "part0", desc := "(II)I" } : Jvm.MethodName) prog_14_method_84_code (4 : Nat) (Option.some Jvm.ClassFile.FieldType.int)) ∈ mw_tbl := mwt_7 20 rfl rfl
set_option maxRecDepth 100000 in
theorem w1545 : (Jvm.Cond.methodLink "HalfOrdersModel" (278 : Nat) ({ cls := "HalfOrdersModel", name := "join0", desc := "(II)I" } : Jvm.MethodName)) ∈ mw_tbl := mwt_7 21 rfl rfl
set_option maxRecDepth 100000 in
theorem w1547 : (Jvm.Cond.instanceMethod ({ cls := "HalfOrdersModel", name := "join0", desc := "(II)I" } : Jvm.MethodName)) ∈ mw_tbl := mwt_7 23 rfl rfl
set_option maxRecDepth 100000 in
theorem w1548 : (Jvm.Cond.code ({ cls := "HalfOrdersModel", name := "join0", desc := "(II)I" } : Jvm.MethodName) prog_14_method_85_code (5 : Nat) (Option.some Jvm.ClassFile.FieldType.int)) ∈ mw_tbl := mwt_7 24 rfl rfl
set_option maxRecDepth 100000 in
theorem w1549 : (Jvm.Cond.methodLink "HalfOrdersModel" (284 : Nat) ({ cls := "HalfOrdersModel", name := "tell0", desc := "(II)I" } : Jvm.MethodName)) ∈ mw_tbl := mwt_7 25 rfl rfl
set_option maxRecDepth 100000 in
theorem w1551 : (Jvm.Cond.instanceMethod ({ cls := "HalfOrdersModel", name := "tell0", desc := "(II)I" } : Jvm.MethodName)) ∈ mw_tbl := mwt_7 27 rfl rfl
set_option maxRecDepth 100000 in
theorem w1552 : (Jvm.Cond.code ({ cls := "HalfOrdersModel", name := "tell0", desc := "(II)I" } : Jvm.MethodName) prog_14_method_87_code (4 : Nat) (Option.some Jvm.ClassFile.FieldType.int)) ∈ mw_tbl := mwt_7 28 rfl rfl
set_option maxRecDepth 100000 in
theorem w1553 : (Jvm.Cond.methodLink "HalfOrdersModel" (281 : Nat) ({ cls := "HalfOrdersModel", name := "orderTell", desc := "(II)I" } : Jvm.MethodName)) ∈ mw_tbl := mwt_7 29 rfl rfl
set_option maxRecDepth 100000 in
theorem w1555 : (Jvm.Cond.instanceMethod ({ cls := "HalfOrdersModel", name := "orderTell", desc := "(II)I" } : Jvm.MethodName)) ∈ mw_tbl := mwt_7 31 rfl rfl
set_option maxRecDepth 100000 in
theorem w1556 : (Jvm.Cond.code ({ cls := "HalfOrdersModel", name := "orderTell", desc := "(II)I" } : Jvm.MethodName) prog_14_method_86_code (4 : Nat) (Option.some Jvm.ClassFile.FieldType.int)) ∈ mw_tbl := mwt_7 32 rfl rfl
set_option maxRecDepth 100000 in
theorem w1573 : (Jvm.Cond.methodLink "HalfOrdersModel" (287 : Nat) ({ cls := "HalfOrdersModel", name := "goes", desc := "(III)Z" } : Jvm.MethodName)) ∈ mw_tbl := mwt_7 49 rfl rfl
set_option maxRecDepth 100000 in
theorem w1575 : (Jvm.Cond.instanceMethod ({ cls := "HalfOrdersModel", name := "goes", desc := "(III)Z" } : Jvm.MethodName)) ∈ mw_tbl := mwt_7 51 rfl rfl
set_option maxRecDepth 100000 in
theorem w1576 : (Jvm.Cond.code ({ cls := "HalfOrdersModel", name := "goes", desc := "(III)Z" } : Jvm.MethodName) prog_14_method_93_code (4 : Nat) (Option.some Jvm.ClassFile.FieldType.boolean)) ∈ mw_tbl := mwt_7 52 rfl rfl
set_option maxRecDepth 100000 in
theorem w1581 : (Jvm.Cond.methodLink "HalfOrdersModel" (290 : Nat) ({ cls := "HalfOrdersModel", name := "modulo", desc := "(II)I" } : Jvm.MethodName)) ∈ mw_tbl := mwt_7 57 rfl rfl
set_option maxRecDepth 100000 in
theorem w1582 : (Jvm.Cond.static ({ cls := "HalfOrdersModel", name := "modulo", desc := "(II)I" } : Jvm.MethodName)) ∈ mw_tbl := mwt_7 58 rfl rfl
set_option maxRecDepth 100000 in
theorem w1583 : (Jvm.Cond.code ({ cls := "HalfOrdersModel", name := "modulo", desc := "(II)I" } : Jvm.MethodName) prog_14_method_94_code (2 : Nat) (Option.some Jvm.ClassFile.FieldType.int)) ∈ mw_tbl := mwt_7 59 rfl rfl
set_option maxRecDepth 100000 in
theorem w1584 : (Jvm.Cond.methodLink "HalfOrdersModel" (293 : Nat) ({ cls := "HalfOrdersModel", name := "orderTaken", desc := "(II)I" } : Jvm.MethodName)) ∈ mw_tbl := mwt_7 60 rfl rfl
set_option maxRecDepth 100000 in
theorem w1586 : (Jvm.Cond.instanceMethod ({ cls := "HalfOrdersModel", name := "orderTaken", desc := "(II)I" } : Jvm.MethodName)) ∈ mw_tbl := mwt_7 62 rfl rfl
set_option maxRecDepth 100000 in
theorem w1587 : (Jvm.Cond.code ({ cls := "HalfOrdersModel", name := "orderTaken", desc := "(II)I" } : Jvm.MethodName) prog_14_method_95_code (5 : Nat) (Option.some Jvm.ClassFile.FieldType.int)) ∈ mw_tbl := mwt_7 63 rfl rfl
set_option maxRecDepth 100000 in
theorem w1588 : (Jvm.Cond.methodLink "HalfOrdersModel" (296 : Nat) ({ cls := "HalfOrdersModel", name := "copied", desc := "(II)I" } : Jvm.MethodName)) ∈ mw_tbl := mwt_7 64 rfl rfl
set_option maxRecDepth 100000 in
theorem w1590 : (Jvm.Cond.instanceMethod ({ cls := "HalfOrdersModel", name := "copied", desc := "(II)I" } : Jvm.MethodName)) ∈ mw_tbl := mwt_7 66 rfl rfl
set_option maxRecDepth 100000 in
theorem w1591 : (Jvm.Cond.code ({ cls := "HalfOrdersModel", name := "copied", desc := "(II)I" } : Jvm.MethodName) prog_14_method_96_code (5 : Nat) (Option.some Jvm.ClassFile.FieldType.int)) ∈ mw_tbl := mwt_7 67 rfl rfl
set_option maxRecDepth 100000 in
theorem w1596 : (Jvm.Cond.sameMethod "HalfOrders$Order" "HalfOrders$Order" "stepsTo" "(II)I") ∈ mw_tbl := mwt_7 72 rfl rfl
set_option maxRecDepth 100000 in
theorem w1597 : (Jvm.Cond.sameMethod "HalfOrders$Order" "HalfOrders$Order" "allNextOver" "(I)I") ∈ mw_tbl := mwt_7 73 rfl rfl
set_option maxRecDepth 100000 in
theorem w1598 : (Jvm.Cond.sameMethod "HalfOrders$Order" "HalfOrders$Order" "firstStep" "(III)I") ∈ mw_tbl := mwt_7 74 rfl rfl
set_option maxRecDepth 100000 in
theorem w1599 : (Jvm.Cond.sameMethod "HalfOrders$Order" "HalfOrders$Order" "isAntichain" "(I)Z") ∈ mw_tbl := mwt_7 75 rfl rfl
set_option maxRecDepth 100000 in
theorem w1600 : (Jvm.Cond.sameMethod "HalfOrders$Order" "HalfOrders$Order" "leastOf" "(I)I") ∈ mw_tbl := mwt_7 76 rfl rfl
set_option maxRecDepth 100000 in
theorem w1601 : (Jvm.Cond.sameMethod "HalfOrders$Order" "HalfOrders$Order" "firstBentEnd" "(II)I") ∈ mw_tbl := mwt_7 77 rfl rfl
set_option maxRecDepth 100000 in
theorem w1602 : (Jvm.Cond.sameMethod "HalfOrders$Stack" "HalfOrders$Stack" "lookAct" "(ILHalfOrders$Line;)I") ∈ mw_tbl := mwt_7 78 rfl rfl
set_option maxRecDepth 100000 in
theorem w1603 : (Jvm.Cond.sameMethod "HalfOrders$Beside" "HalfOrders$Beside" "joinAct" "(ILHalfOrders$Line;)I") ∈ mw_tbl := mwt_7 79 rfl rfl
set_option maxRecDepth 100000 in
theorem w1613 : (Jvm.Cond.selects "HalfOrders$Stack" ({ cls := "HalfOrders$Order", name := "stepsTo", desc := "(II)I" } : Jvm.MethodName) ({ cls := "HalfOrders$Order", name := "stepsTo", desc := "(II)I" } : Jvm.MethodName)) ∈ mw_tbl := mw_of_ex (List.mem_of_getElem? (i := 0) rfl) rfl
set_option maxRecDepth 100000 in
theorem w1614 : (Jvm.Cond.selects "HalfOrders$Stack" ({ cls := "HalfOrders$Order", name := "allNextOver", desc := "(I)I" } : Jvm.MethodName) ({ cls := "HalfOrders$Order", name := "allNextOver", desc := "(I)I" } : Jvm.MethodName)) ∈ mw_tbl := mw_of_ex (List.mem_of_getElem? (i := 1) rfl) rfl
set_option maxRecDepth 100000 in
theorem w1615 : (Jvm.Cond.selects "HalfOrders$Stack" ({ cls := "HalfOrders$Order", name := "firstStep", desc := "(III)I" } : Jvm.MethodName) ({ cls := "HalfOrders$Order", name := "firstStep", desc := "(III)I" } : Jvm.MethodName)) ∈ mw_tbl := mw_of_ex (List.mem_of_getElem? (i := 2) rfl) rfl
set_option maxRecDepth 100000 in
theorem w1616 : (Jvm.Cond.selects "HalfOrders$Stack" ({ cls := "HalfOrders$Order", name := "isAntichain", desc := "(I)Z" } : Jvm.MethodName) ({ cls := "HalfOrders$Order", name := "isAntichain", desc := "(I)Z" } : Jvm.MethodName)) ∈ mw_tbl := mw_of_ex (List.mem_of_getElem? (i := 3) rfl) rfl
set_option maxRecDepth 100000 in
theorem w1617 : (Jvm.Cond.selects "HalfOrders$Stack" ({ cls := "HalfOrders$Order", name := "leastOf", desc := "(I)I" } : Jvm.MethodName) ({ cls := "HalfOrders$Order", name := "leastOf", desc := "(I)I" } : Jvm.MethodName)) ∈ mw_tbl := mw_of_ex (List.mem_of_getElem? (i := 4) rfl) rfl
set_option maxRecDepth 100000 in
theorem w1618 : (Jvm.Cond.selects "HalfOrders$Stack" ({ cls := "HalfOrders$Order", name := "firstBentEnd", desc := "(II)I" } : Jvm.MethodName) ({ cls := "HalfOrders$Order", name := "firstBentEnd", desc := "(II)I" } : Jvm.MethodName)) ∈ mw_tbl := mw_of_ex (List.mem_of_getElem? (i := 5) rfl) rfl
set_option maxRecDepth 100000 in
theorem w1619 : (Jvm.Cond.selects "HalfOrders$Beside" ({ cls := "HalfOrders$Order", name := "stepsTo", desc := "(II)I" } : Jvm.MethodName) ({ cls := "HalfOrders$Order", name := "stepsTo", desc := "(II)I" } : Jvm.MethodName)) ∈ mw_tbl := mw_of_ex (List.mem_of_getElem? (i := 6) rfl) rfl
set_option maxRecDepth 100000 in
theorem w1620 : (Jvm.Cond.selects "HalfOrders$Beside" ({ cls := "HalfOrders$Order", name := "allNextOver", desc := "(I)I" } : Jvm.MethodName) ({ cls := "HalfOrders$Order", name := "allNextOver", desc := "(I)I" } : Jvm.MethodName)) ∈ mw_tbl := mw_of_ex (List.mem_of_getElem? (i := 7) rfl) rfl
set_option maxRecDepth 100000 in
theorem w1621 : (Jvm.Cond.selects "HalfOrders$Beside" ({ cls := "HalfOrders$Order", name := "firstStep", desc := "(III)I" } : Jvm.MethodName) ({ cls := "HalfOrders$Order", name := "firstStep", desc := "(III)I" } : Jvm.MethodName)) ∈ mw_tbl := mw_of_ex (List.mem_of_getElem? (i := 8) rfl) rfl
set_option maxRecDepth 100000 in
theorem w1622 : (Jvm.Cond.selects "HalfOrders$Beside" ({ cls := "HalfOrders$Order", name := "isAntichain", desc := "(I)Z" } : Jvm.MethodName) ({ cls := "HalfOrders$Order", name := "isAntichain", desc := "(I)Z" } : Jvm.MethodName)) ∈ mw_tbl := mw_of_ex (List.mem_of_getElem? (i := 9) rfl) rfl
set_option maxRecDepth 100000 in
theorem w1623 : (Jvm.Cond.selects "HalfOrders$Beside" ({ cls := "HalfOrders$Order", name := "leastOf", desc := "(I)I" } : Jvm.MethodName) ({ cls := "HalfOrders$Order", name := "leastOf", desc := "(I)I" } : Jvm.MethodName)) ∈ mw_tbl := mw_of_ex (List.mem_of_getElem? (i := 10) rfl) rfl
set_option maxRecDepth 100000 in
theorem w1624 : (Jvm.Cond.selects "HalfOrders$Beside" ({ cls := "HalfOrders$Order", name := "firstBentEnd", desc := "(II)I" } : Jvm.MethodName) ({ cls := "HalfOrders$Order", name := "firstBentEnd", desc := "(II)I" } : Jvm.MethodName)) ∈ mw_tbl := mw_of_ex (List.mem_of_getElem? (i := 11) rfl) rfl
set_option maxRecDepth 100000 in
theorem w1625 : (Jvm.Cond.selects "HalfOrders$Times" ({ cls := "HalfOrders$Order", name := "stepsTo", desc := "(II)I" } : Jvm.MethodName) ({ cls := "HalfOrders$Order", name := "stepsTo", desc := "(II)I" } : Jvm.MethodName)) ∈ mw_tbl := mw_of_ex (List.mem_of_getElem? (i := 12) rfl) rfl
set_option maxRecDepth 100000 in
theorem w1626 : (Jvm.Cond.selects "HalfOrders$Times" ({ cls := "HalfOrders$Order", name := "allNextOver", desc := "(I)I" } : Jvm.MethodName) ({ cls := "HalfOrders$Order", name := "allNextOver", desc := "(I)I" } : Jvm.MethodName)) ∈ mw_tbl := mw_of_ex (List.mem_of_getElem? (i := 13) rfl) rfl
set_option maxRecDepth 100000 in
theorem w1627 : (Jvm.Cond.selects "HalfOrders$Times" ({ cls := "HalfOrders$Order", name := "firstStep", desc := "(III)I" } : Jvm.MethodName) ({ cls := "HalfOrders$Order", name := "firstStep", desc := "(III)I" } : Jvm.MethodName)) ∈ mw_tbl := mw_of_ex (List.mem_of_getElem? (i := 14) rfl) rfl
set_option maxRecDepth 100000 in
theorem w1628 : (Jvm.Cond.selects "HalfOrders$Times" ({ cls := "HalfOrders$Order", name := "isAntichain", desc := "(I)Z" } : Jvm.MethodName) ({ cls := "HalfOrders$Order", name := "isAntichain", desc := "(I)Z" } : Jvm.MethodName)) ∈ mw_tbl := mw_of_ex (List.mem_of_getElem? (i := 15) rfl) rfl
set_option maxRecDepth 100000 in
theorem w1629 : (Jvm.Cond.selects "HalfOrders$Times" ({ cls := "HalfOrders$Order", name := "leastOf", desc := "(I)I" } : Jvm.MethodName) ({ cls := "HalfOrders$Order", name := "leastOf", desc := "(I)I" } : Jvm.MethodName)) ∈ mw_tbl := mw_of_ex (List.mem_of_getElem? (i := 16) rfl) rfl
set_option maxRecDepth 100000 in
theorem w1630 : (Jvm.Cond.selects "HalfOrders$Times" ({ cls := "HalfOrders$Order", name := "firstBentEnd", desc := "(II)I" } : Jvm.MethodName) ({ cls := "HalfOrders$Order", name := "firstBentEnd", desc := "(II)I" } : Jvm.MethodName)) ∈ mw_tbl := mw_of_ex (List.mem_of_getElem? (i := 17) rfl) rfl
set_option maxRecDepth 100000 in
theorem w1631 : (Jvm.Cond.selects "HalfOrders$Held" ({ cls := "HalfOrders$Order", name := "stepsTo", desc := "(II)I" } : Jvm.MethodName) ({ cls := "HalfOrders$Order", name := "stepsTo", desc := "(II)I" } : Jvm.MethodName)) ∈ mw_tbl := mw_of_ex (List.mem_of_getElem? (i := 18) rfl) rfl
set_option maxRecDepth 100000 in
theorem w1632 : (Jvm.Cond.selects "HalfOrders$Held" ({ cls := "HalfOrders$Order", name := "allNextOver", desc := "(I)I" } : Jvm.MethodName) ({ cls := "HalfOrders$Order", name := "allNextOver", desc := "(I)I" } : Jvm.MethodName)) ∈ mw_tbl := mw_of_ex (List.mem_of_getElem? (i := 19) rfl) rfl
set_option maxRecDepth 100000 in
theorem w1633 : (Jvm.Cond.selects "HalfOrders$Held" ({ cls := "HalfOrders$Order", name := "firstStep", desc := "(III)I" } : Jvm.MethodName) ({ cls := "HalfOrders$Order", name := "firstStep", desc := "(III)I" } : Jvm.MethodName)) ∈ mw_tbl := mw_of_ex (List.mem_of_getElem? (i := 20) rfl) rfl
set_option maxRecDepth 100000 in
theorem w1634 : (Jvm.Cond.selects "HalfOrders$Held" ({ cls := "HalfOrders$Order", name := "isAntichain", desc := "(I)Z" } : Jvm.MethodName) ({ cls := "HalfOrders$Order", name := "isAntichain", desc := "(I)Z" } : Jvm.MethodName)) ∈ mw_tbl := mw_of_ex (List.mem_of_getElem? (i := 21) rfl) rfl
set_option maxRecDepth 100000 in
theorem w1635 : (Jvm.Cond.selects "HalfOrders$Held" ({ cls := "HalfOrders$Order", name := "leastOf", desc := "(I)I" } : Jvm.MethodName) ({ cls := "HalfOrders$Order", name := "leastOf", desc := "(I)I" } : Jvm.MethodName)) ∈ mw_tbl := mw_of_ex (List.mem_of_getElem? (i := 22) rfl) rfl
set_option maxRecDepth 100000 in
theorem w1636 : (Jvm.Cond.selects "HalfOrders$Held" ({ cls := "HalfOrders$Order", name := "firstBentEnd", desc := "(II)I" } : Jvm.MethodName) ({ cls := "HalfOrders$Order", name := "firstBentEnd", desc := "(II)I" } : Jvm.MethodName)) ∈ mw_tbl := mw_of_ex (List.mem_of_getElem? (i := 23) rfl) rfl
set_option maxRecDepth 100000 in
theorem w1637 : (Jvm.Cond.selects "HalfOrders$Row" ({ cls := "HalfOrders$Order", name := "stepsTo", desc := "(II)I" } : Jvm.MethodName) ({ cls := "HalfOrders$Order", name := "stepsTo", desc := "(II)I" } : Jvm.MethodName)) ∈ mw_tbl := mw_of_ex (List.mem_of_getElem? (i := 24) rfl) rfl
set_option maxRecDepth 100000 in
theorem w1638 : (Jvm.Cond.selects "HalfOrders$Row" ({ cls := "HalfOrders$Order", name := "allNextOver", desc := "(I)I" } : Jvm.MethodName) ({ cls := "HalfOrders$Order", name := "allNextOver", desc := "(I)I" } : Jvm.MethodName)) ∈ mw_tbl := mw_of_ex (List.mem_of_getElem? (i := 25) rfl) rfl
set_option maxRecDepth 100000 in
theorem w1639 : (Jvm.Cond.selects "HalfOrders$Row" ({ cls := "HalfOrders$Order", name := "firstStep", desc := "(III)I" } : Jvm.MethodName) ({ cls := "HalfOrders$Order", name := "firstStep", desc := "(III)I" } : Jvm.MethodName)) ∈ mw_tbl := mw_of_ex (List.mem_of_getElem? (i := 26) rfl) rfl
set_option maxRecDepth 100000 in
theorem w1640 : (Jvm.Cond.selects "HalfOrders$Row" ({ cls := "HalfOrders$Order", name := "isAntichain", desc := "(I)Z" } : Jvm.MethodName) ({ cls := "HalfOrders$Order", name := "isAntichain", desc := "(I)Z" } : Jvm.MethodName)) ∈ mw_tbl := mw_of_ex (List.mem_of_getElem? (i := 27) rfl) rfl
set_option maxRecDepth 100000 in
theorem w1641 : (Jvm.Cond.selects "HalfOrders$Row" ({ cls := "HalfOrders$Order", name := "leastOf", desc := "(I)I" } : Jvm.MethodName) ({ cls := "HalfOrders$Order", name := "leastOf", desc := "(I)I" } : Jvm.MethodName)) ∈ mw_tbl := mw_of_ex (List.mem_of_getElem? (i := 28) rfl) rfl
set_option maxRecDepth 100000 in
theorem w1642 : (Jvm.Cond.selects "HalfOrders$Row" ({ cls := "HalfOrders$Order", name := "firstBentEnd", desc := "(II)I" } : Jvm.MethodName) ({ cls := "HalfOrders$Order", name := "firstBentEnd", desc := "(II)I" } : Jvm.MethodName)) ∈ mw_tbl := mw_of_ex (List.mem_of_getElem? (i := 29) rfl) rfl
