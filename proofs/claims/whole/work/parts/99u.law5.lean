/-! ===== the law's cases ===== -/
set_option maxRecDepth 100000 in
theorem v259 : (Jvm.Cond.code ({ cls := "HalfOrders", name := "order", desc := "(I)I" } : Jvm.MethodName) prog_1_method_2_code (2 : Nat) (Option.some Jvm.ClassFile.FieldType.int)) ∈ mw_tbl := mwt_1 175 rfl rfl
set_option maxRecDepth 100000 in
theorem v256 : (Jvm.Cond.methodLink "HalfOrdersLaw" (13 : Nat) ({ cls := "HalfOrders", name := "order", desc := "(I)I" } : Jvm.MethodName)) ∈ mw_tbl := mwt_1 172 rfl rfl
set_option maxRecDepth 100000 in
theorem v85 : (Jvm.Cond.initialized "HalfOrders") ∈ mw_tbl := mwt_1 1 rfl rfl
set_option maxRecDepth 100000 in
theorem v257 : (Jvm.Cond.instanceMethod ({ cls := "HalfOrders", name := "order", desc := "(I)I" } : Jvm.MethodName)) ∈ mw_tbl := mwt_1 173 rfl rfl
set_option maxRecDepth 100000 in
theorem v258 : (Jvm.Cond.selects "HalfOrders" ({ cls := "HalfOrders", name := "order", desc := "(I)I" } : Jvm.MethodName) ({ cls := "HalfOrders", name := "order", desc := "(I)I" } : Jvm.MethodName)) ∈ mw_tbl := mwt_1 174 rfl rfl
theorem ww_X11_order : WW mi_X11_order 13 1 := ⟨v259, v256, v85, v257, v258, ⟨by decide, by decide, by decide +kernel⟩, by decide⟩
set_option maxRecDepth 100000 in
theorem v1210 : (Jvm.Cond.code ({ cls := "HalfOrdersModel", name := "order", desc := "(I)I" } : Jvm.MethodName) prog_14_method_13_code (2 : Nat) (Option.some Jvm.ClassFile.FieldType.int)) ∈ mw_tbl := mwt_5 166 rfl rfl
set_option maxRecDepth 100000 in
theorem v1207 : (Jvm.Cond.methodLink "HalfOrdersLaw" (17 : Nat) ({ cls := "HalfOrdersModel", name := "order", desc := "(I)I" } : Jvm.MethodName)) ∈ mw_tbl := mwt_5 163 rfl rfl
set_option maxRecDepth 100000 in
theorem v92 : (Jvm.Cond.initialized "HalfOrdersModel") ∈ mw_tbl := mwt_1 8 rfl rfl
set_option maxRecDepth 100000 in
theorem v1208 : (Jvm.Cond.instanceMethod ({ cls := "HalfOrdersModel", name := "order", desc := "(I)I" } : Jvm.MethodName)) ∈ mw_tbl := mwt_5 164 rfl rfl
set_option maxRecDepth 100000 in
theorem v1209 : (Jvm.Cond.selects "HalfOrdersModel" ({ cls := "HalfOrdersModel", name := "order", desc := "(I)I" } : Jvm.MethodName) ({ cls := "HalfOrdersModel", name := "order", desc := "(I)I" } : Jvm.MethodName)) ∈ mw_tbl := mwt_5 165 rfl rfl
theorem ww_X12_order : WW mi_X12_order 17 1 := ⟨v1210, v1207, v92, v1208, v1209, ⟨by decide, by decide, by decide +kernel⟩, by decide⟩
set_option synthInstance.maxSize 4096 in
set_option synthInstance.maxHeartbeats 400000 in
set_option maxRecDepth 100000 in
theorem dec_200 : caseD 200 1 13 17 1207 := by unfold caseD argD; decide +kernel
set_option maxRecDepth 100000 in
theorem v318 : (Jvm.Cond.code ({ cls := "HalfOrders", name := "pair", desc := "(III)I" } : Jvm.MethodName) prog_1_method_3_code (5 : Nat) (Option.some Jvm.ClassFile.FieldType.int)) ∈ mw_tbl := mwt_1 234 rfl rfl
set_option maxRecDepth 100000 in
theorem v315 : (Jvm.Cond.methodLink "HalfOrdersLaw" (18 : Nat) ({ cls := "HalfOrders", name := "pair", desc := "(III)I" } : Jvm.MethodName)) ∈ mw_tbl := mwt_1 231 rfl rfl
set_option maxRecDepth 100000 in
theorem v316 : (Jvm.Cond.instanceMethod ({ cls := "HalfOrders", name := "pair", desc := "(III)I" } : Jvm.MethodName)) ∈ mw_tbl := mwt_1 232 rfl rfl
set_option maxRecDepth 100000 in
theorem v317 : (Jvm.Cond.selects "HalfOrders" ({ cls := "HalfOrders", name := "pair", desc := "(III)I" } : Jvm.MethodName) ({ cls := "HalfOrders", name := "pair", desc := "(III)I" } : Jvm.MethodName)) ∈ mw_tbl := mwt_1 233 rfl rfl
theorem ww_X11_pair : WW mi_X11_pair 18 3 := ⟨v318, v315, v85, v316, v317, ⟨by decide, by decide, by decide +kernel⟩, by decide⟩
set_option maxRecDepth 100000 in
theorem v1229 : (Jvm.Cond.code ({ cls := "HalfOrdersModel", name := "pair", desc := "(III)I" } : Jvm.MethodName) prog_14_method_16_code (5 : Nat) (Option.some Jvm.ClassFile.FieldType.int)) ∈ mw_tbl := mwt_5 185 rfl rfl
set_option maxRecDepth 100000 in
theorem v1226 : (Jvm.Cond.methodLink "HalfOrdersLaw" (22 : Nat) ({ cls := "HalfOrdersModel", name := "pair", desc := "(III)I" } : Jvm.MethodName)) ∈ mw_tbl := mwt_5 182 rfl rfl
set_option maxRecDepth 100000 in
theorem v1227 : (Jvm.Cond.instanceMethod ({ cls := "HalfOrdersModel", name := "pair", desc := "(III)I" } : Jvm.MethodName)) ∈ mw_tbl := mwt_5 183 rfl rfl
set_option maxRecDepth 100000 in
theorem v1228 : (Jvm.Cond.selects "HalfOrdersModel" ({ cls := "HalfOrdersModel", name := "pair", desc := "(III)I" } : Jvm.MethodName) ({ cls := "HalfOrdersModel", name := "pair", desc := "(III)I" } : Jvm.MethodName)) ∈ mw_tbl := mwt_5 184 rfl rfl
theorem ww_X12_pair : WW mi_X12_pair 22 3 := ⟨v1229, v1226, v92, v1227, v1228, ⟨by decide, by decide, by decide +kernel⟩, by decide⟩
set_option synthInstance.maxSize 4096 in
set_option synthInstance.maxHeartbeats 400000 in
set_option maxRecDepth 100000 in
theorem dec_223 : caseD 223 3 18 22 1164 := by unfold caseD argD; decide +kernel
set_option maxRecDepth 100000 in
theorem v439 : (Jvm.Cond.code ({ cls := "HalfOrders", name := "round", desc := "(I)I" } : Jvm.MethodName) prog_1_method_4_code (2 : Nat) (Option.some Jvm.ClassFile.FieldType.int)) ∈ mw_tbl := mwt_2 115 rfl rfl
set_option maxRecDepth 100000 in
theorem v436 : (Jvm.Cond.methodLink "HalfOrdersLaw" (23 : Nat) ({ cls := "HalfOrders", name := "round", desc := "(I)I" } : Jvm.MethodName)) ∈ mw_tbl := mwt_2 112 rfl rfl
set_option maxRecDepth 100000 in
theorem v437 : (Jvm.Cond.instanceMethod ({ cls := "HalfOrders", name := "round", desc := "(I)I" } : Jvm.MethodName)) ∈ mw_tbl := mwt_2 113 rfl rfl
set_option maxRecDepth 100000 in
theorem v438 : (Jvm.Cond.selects "HalfOrders" ({ cls := "HalfOrders", name := "round", desc := "(I)I" } : Jvm.MethodName) ({ cls := "HalfOrders", name := "round", desc := "(I)I" } : Jvm.MethodName)) ∈ mw_tbl := mwt_2 114 rfl rfl
theorem ww_X11_round : WW mi_X11_round 23 1 := ⟨v439, v436, v85, v437, v438, ⟨by decide, by decide, by decide +kernel⟩, by decide⟩
set_option maxRecDepth 100000 in
theorem v1260 : (Jvm.Cond.code ({ cls := "HalfOrdersModel", name := "round", desc := "(I)I" } : Jvm.MethodName) prog_14_method_17_code (2 : Nat) (Option.some Jvm.ClassFile.FieldType.int)) ∈ mw_tbl := mwt_5 216 rfl rfl
set_option maxRecDepth 100000 in
theorem v1257 : (Jvm.Cond.methodLink "HalfOrdersLaw" (26 : Nat) ({ cls := "HalfOrdersModel", name := "round", desc := "(I)I" } : Jvm.MethodName)) ∈ mw_tbl := mwt_5 213 rfl rfl
set_option maxRecDepth 100000 in
theorem v1258 : (Jvm.Cond.instanceMethod ({ cls := "HalfOrdersModel", name := "round", desc := "(I)I" } : Jvm.MethodName)) ∈ mw_tbl := mwt_5 214 rfl rfl
set_option maxRecDepth 100000 in
theorem v1259 : (Jvm.Cond.selects "HalfOrdersModel" ({ cls := "HalfOrdersModel", name := "round", desc := "(I)I" } : Jvm.MethodName) ({ cls := "HalfOrdersModel", name := "round", desc := "(I)I" } : Jvm.MethodName)) ∈ mw_tbl := mwt_5 215 rfl rfl
theorem ww_X12_round : WW mi_X12_round 26 1 := ⟨v1260, v1257, v92, v1258, v1259, ⟨by decide, by decide, by decide +kernel⟩, by decide⟩
set_option synthInstance.maxSize 4096 in
set_option synthInstance.maxHeartbeats 400000 in
set_option maxRecDepth 100000 in
theorem dec_266 : caseD 266 1 23 26 1141 := by unfold caseD argD; decide +kernel
set_option maxRecDepth 100000 in
theorem v447 : (Jvm.Cond.code ({ cls := "HalfOrders", name := "stack", desc := "(II)I" } : Jvm.MethodName) prog_1_method_5_code (8 : Nat) (Option.some Jvm.ClassFile.FieldType.int)) ∈ mw_tbl := mwt_2 123 rfl rfl
set_option maxRecDepth 100000 in
theorem v444 : (Jvm.Cond.methodLink "HalfOrdersLaw" (27 : Nat) ({ cls := "HalfOrders", name := "stack", desc := "(II)I" } : Jvm.MethodName)) ∈ mw_tbl := mwt_2 120 rfl rfl
set_option maxRecDepth 100000 in
theorem v445 : (Jvm.Cond.instanceMethod ({ cls := "HalfOrders", name := "stack", desc := "(II)I" } : Jvm.MethodName)) ∈ mw_tbl := mwt_2 121 rfl rfl
set_option maxRecDepth 100000 in
theorem v446 : (Jvm.Cond.selects "HalfOrders" ({ cls := "HalfOrders", name := "stack", desc := "(II)I" } : Jvm.MethodName) ({ cls := "HalfOrders", name := "stack", desc := "(II)I" } : Jvm.MethodName)) ∈ mw_tbl := mwt_2 122 rfl rfl
theorem ww_X11_stack : WW mi_X11_stack 27 2 := ⟨v447, v444, v85, v445, v446, ⟨by decide, by decide, by decide +kernel⟩, by decide⟩
set_option maxRecDepth 100000 in
theorem v1264 : (Jvm.Cond.code ({ cls := "HalfOrdersModel", name := "stack", desc := "(II)I" } : Jvm.MethodName) prog_14_method_19_code (3 : Nat) (Option.some Jvm.ClassFile.FieldType.int)) ∈ mw_tbl := mwt_5 220 rfl rfl
set_option maxRecDepth 100000 in
theorem v1261 : (Jvm.Cond.methodLink "HalfOrdersLaw" (31 : Nat) ({ cls := "HalfOrdersModel", name := "stack", desc := "(II)I" } : Jvm.MethodName)) ∈ mw_tbl := mwt_5 217 rfl rfl
set_option maxRecDepth 100000 in
theorem v1262 : (Jvm.Cond.instanceMethod ({ cls := "HalfOrdersModel", name := "stack", desc := "(II)I" } : Jvm.MethodName)) ∈ mw_tbl := mwt_5 218 rfl rfl
set_option maxRecDepth 100000 in
theorem v1263 : (Jvm.Cond.selects "HalfOrdersModel" ({ cls := "HalfOrdersModel", name := "stack", desc := "(II)I" } : Jvm.MethodName) ({ cls := "HalfOrdersModel", name := "stack", desc := "(II)I" } : Jvm.MethodName)) ∈ mw_tbl := mwt_5 219 rfl rfl
theorem ww_X12_stack : WW mi_X12_stack 31 2 := ⟨v1264, v1261, v92, v1262, v1263, ⟨by decide, by decide, by decide +kernel⟩, by decide⟩
set_option synthInstance.maxSize 4096 in
set_option synthInstance.maxHeartbeats 400000 in
set_option maxRecDepth 100000 in
theorem dec_289 : caseD 289 2 27 31 1108 := by unfold caseD argD; decide +kernel
set_option maxRecDepth 100000 in
theorem v474 : (Jvm.Cond.code ({ cls := "HalfOrders", name := "beside", desc := "(II)I" } : Jvm.MethodName) prog_1_method_6_code (6 : Nat) (Option.some Jvm.ClassFile.FieldType.int)) ∈ mw_tbl := mwt_2 150 rfl rfl
set_option maxRecDepth 100000 in
theorem v471 : (Jvm.Cond.methodLink "HalfOrdersLaw" (32 : Nat) ({ cls := "HalfOrders", name := "beside", desc := "(II)I" } : Jvm.MethodName)) ∈ mw_tbl := mwt_2 147 rfl rfl
set_option maxRecDepth 100000 in
theorem v472 : (Jvm.Cond.instanceMethod ({ cls := "HalfOrders", name := "beside", desc := "(II)I" } : Jvm.MethodName)) ∈ mw_tbl := mwt_2 148 rfl rfl
set_option maxRecDepth 100000 in
theorem v473 : (Jvm.Cond.selects "HalfOrders" ({ cls := "HalfOrders", name := "beside", desc := "(II)I" } : Jvm.MethodName) ({ cls := "HalfOrders", name := "beside", desc := "(II)I" } : Jvm.MethodName)) ∈ mw_tbl := mwt_2 149 rfl rfl
theorem ww_X11_beside : WW mi_X11_beside 32 2 := ⟨v474, v471, v85, v472, v473, ⟨by decide, by decide, by decide +kernel⟩, by decide⟩
set_option maxRecDepth 100000 in
theorem v1272 : (Jvm.Cond.code ({ cls := "HalfOrdersModel", name := "beside", desc := "(II)I" } : Jvm.MethodName) prog_14_method_20_code (3 : Nat) (Option.some Jvm.ClassFile.FieldType.int)) ∈ mw_tbl := mwt_5 228 rfl rfl
set_option maxRecDepth 100000 in
theorem v1269 : (Jvm.Cond.methodLink "HalfOrdersLaw" (35 : Nat) ({ cls := "HalfOrdersModel", name := "beside", desc := "(II)I" } : Jvm.MethodName)) ∈ mw_tbl := mwt_5 225 rfl rfl
set_option maxRecDepth 100000 in
theorem v1270 : (Jvm.Cond.instanceMethod ({ cls := "HalfOrdersModel", name := "beside", desc := "(II)I" } : Jvm.MethodName)) ∈ mw_tbl := mwt_5 226 rfl rfl
set_option maxRecDepth 100000 in
theorem v1271 : (Jvm.Cond.selects "HalfOrdersModel" ({ cls := "HalfOrdersModel", name := "beside", desc := "(II)I" } : Jvm.MethodName) ({ cls := "HalfOrdersModel", name := "beside", desc := "(II)I" } : Jvm.MethodName)) ∈ mw_tbl := mwt_5 227 rfl rfl
theorem ww_X12_beside : WW mi_X12_beside 35 2 := ⟨v1272, v1269, v92, v1270, v1271, ⟨by decide, by decide, by decide +kernel⟩, by decide⟩
set_option synthInstance.maxSize 4096 in
set_option synthInstance.maxHeartbeats 400000 in
set_option maxRecDepth 100000 in
theorem dec_322 : caseD 322 2 32 35 1075 := by unfold caseD argD; decide +kernel
set_option maxRecDepth 100000 in
theorem v490 : (Jvm.Cond.code ({ cls := "HalfOrders", name := "times", desc := "(II)I" } : Jvm.MethodName) prog_1_method_7_code (8 : Nat) (Option.some Jvm.ClassFile.FieldType.int)) ∈ mw_tbl := mwt_2 166 rfl rfl
set_option maxRecDepth 100000 in
theorem v487 : (Jvm.Cond.methodLink "HalfOrdersLaw" (36 : Nat) ({ cls := "HalfOrders", name := "times", desc := "(II)I" } : Jvm.MethodName)) ∈ mw_tbl := mwt_2 163 rfl rfl
set_option maxRecDepth 100000 in
theorem v488 : (Jvm.Cond.instanceMethod ({ cls := "HalfOrders", name := "times", desc := "(II)I" } : Jvm.MethodName)) ∈ mw_tbl := mwt_2 164 rfl rfl
set_option maxRecDepth 100000 in
theorem v489 : (Jvm.Cond.selects "HalfOrders" ({ cls := "HalfOrders", name := "times", desc := "(II)I" } : Jvm.MethodName) ({ cls := "HalfOrders", name := "times", desc := "(II)I" } : Jvm.MethodName)) ∈ mw_tbl := mwt_2 165 rfl rfl
theorem ww_X11_times : WW mi_X11_times 36 2 := ⟨v490, v487, v85, v488, v489, ⟨by decide, by decide, by decide +kernel⟩, by decide⟩
set_option maxRecDepth 100000 in
theorem v1276 : (Jvm.Cond.code ({ cls := "HalfOrdersModel", name := "times", desc := "(II)I" } : Jvm.MethodName) prog_14_method_21_code (9 : Nat) (Option.some Jvm.ClassFile.FieldType.int)) ∈ mw_tbl := mwt_5 232 rfl rfl
set_option maxRecDepth 100000 in
theorem v1273 : (Jvm.Cond.methodLink "HalfOrdersLaw" (39 : Nat) ({ cls := "HalfOrdersModel", name := "times", desc := "(II)I" } : Jvm.MethodName)) ∈ mw_tbl := mwt_5 229 rfl rfl
set_option maxRecDepth 100000 in
theorem v1274 : (Jvm.Cond.instanceMethod ({ cls := "HalfOrdersModel", name := "times", desc := "(II)I" } : Jvm.MethodName)) ∈ mw_tbl := mwt_5 230 rfl rfl
set_option maxRecDepth 100000 in
theorem v1275 : (Jvm.Cond.selects "HalfOrdersModel" ({ cls := "HalfOrdersModel", name := "times", desc := "(II)I" } : Jvm.MethodName) ({ cls := "HalfOrdersModel", name := "times", desc := "(II)I" } : Jvm.MethodName)) ∈ mw_tbl := mwt_5 231 rfl rfl
theorem ww_X12_times : WW mi_X12_times 39 2 := ⟨v1276, v1273, v92, v1274, v1275, ⟨by decide, by decide, by decide +kernel⟩, by decide⟩
set_option synthInstance.maxSize 4096 in
set_option synthInstance.maxHeartbeats 400000 in
set_option maxRecDepth 100000 in
theorem dec_355 : caseD 355 2 36 39 1042 := by unfold caseD argD; decide +kernel
set_option maxRecDepth 100000 in
theorem v509 : (Jvm.Cond.code ({ cls := "HalfOrders", name := "held", desc := "(I)I" } : Jvm.MethodName) prog_1_method_8_code (7 : Nat) (Option.some Jvm.ClassFile.FieldType.int)) ∈ mw_tbl := mwt_2 185 rfl rfl
set_option maxRecDepth 100000 in
theorem v506 : (Jvm.Cond.methodLink "HalfOrdersLaw" (40 : Nat) ({ cls := "HalfOrders", name := "held", desc := "(I)I" } : Jvm.MethodName)) ∈ mw_tbl := mwt_2 182 rfl rfl
set_option maxRecDepth 100000 in
theorem v507 : (Jvm.Cond.instanceMethod ({ cls := "HalfOrders", name := "held", desc := "(I)I" } : Jvm.MethodName)) ∈ mw_tbl := mwt_2 183 rfl rfl
set_option maxRecDepth 100000 in
theorem v508 : (Jvm.Cond.selects "HalfOrders" ({ cls := "HalfOrders", name := "held", desc := "(I)I" } : Jvm.MethodName) ({ cls := "HalfOrders", name := "held", desc := "(I)I" } : Jvm.MethodName)) ∈ mw_tbl := mwt_2 184 rfl rfl
theorem ww_X11_held : WW mi_X11_held 40 1 := ⟨v509, v506, v85, v507, v508, ⟨by decide, by decide, by decide +kernel⟩, by decide⟩
set_option maxRecDepth 100000 in
theorem v1280 : (Jvm.Cond.code ({ cls := "HalfOrdersModel", name := "held", desc := "(I)I" } : Jvm.MethodName) prog_14_method_25_code (6 : Nat) (Option.some Jvm.ClassFile.FieldType.int)) ∈ mw_tbl := mwt_5 236 rfl rfl
set_option maxRecDepth 100000 in
theorem v1277 : (Jvm.Cond.methodLink "HalfOrdersLaw" (43 : Nat) ({ cls := "HalfOrdersModel", name := "held", desc := "(I)I" } : Jvm.MethodName)) ∈ mw_tbl := mwt_5 233 rfl rfl
set_option maxRecDepth 100000 in
theorem v1278 : (Jvm.Cond.instanceMethod ({ cls := "HalfOrdersModel", name := "held", desc := "(I)I" } : Jvm.MethodName)) ∈ mw_tbl := mwt_5 234 rfl rfl
set_option maxRecDepth 100000 in
theorem v1279 : (Jvm.Cond.selects "HalfOrdersModel" ({ cls := "HalfOrdersModel", name := "held", desc := "(I)I" } : Jvm.MethodName) ({ cls := "HalfOrdersModel", name := "held", desc := "(I)I" } : Jvm.MethodName)) ∈ mw_tbl := mwt_5 235 rfl rfl
theorem ww_X12_held : WW mi_X12_held 43 1 := ⟨v1280, v1277, v92, v1278, v1279, ⟨by decide, by decide, by decide +kernel⟩, by decide⟩
set_option synthInstance.maxSize 4096 in
set_option synthInstance.maxHeartbeats 400000 in
set_option maxRecDepth 100000 in
theorem dec_388 : caseD 388 1 40 43 1019 := by unfold caseD argD; decide +kernel
set_option maxRecDepth 100000 in
theorem v560 : (Jvm.Cond.code ({ cls := "HalfOrders", name := "row", desc := "(I)I" } : Jvm.MethodName) prog_1_method_9_code (5 : Nat) (Option.some Jvm.ClassFile.FieldType.int)) ∈ mw_tbl := mwt_2 236 rfl rfl
set_option maxRecDepth 100000 in
theorem v557 : (Jvm.Cond.methodLink "HalfOrdersLaw" (44 : Nat) ({ cls := "HalfOrders", name := "row", desc := "(I)I" } : Jvm.MethodName)) ∈ mw_tbl := mwt_2 233 rfl rfl
set_option maxRecDepth 100000 in
theorem v558 : (Jvm.Cond.instanceMethod ({ cls := "HalfOrders", name := "row", desc := "(I)I" } : Jvm.MethodName)) ∈ mw_tbl := mwt_2 234 rfl rfl
set_option maxRecDepth 100000 in
theorem v559 : (Jvm.Cond.selects "HalfOrders" ({ cls := "HalfOrders", name := "row", desc := "(I)I" } : Jvm.MethodName) ({ cls := "HalfOrders", name := "row", desc := "(I)I" } : Jvm.MethodName)) ∈ mw_tbl := mwt_2 235 rfl rfl
theorem ww_X11_row : WW mi_X11_row 44 1 := ⟨v560, v557, v85, v558, v559, ⟨by decide, by decide, by decide +kernel⟩, by decide⟩
set_option maxRecDepth 100000 in
theorem v1296 : (Jvm.Cond.code ({ cls := "HalfOrdersModel", name := "row", desc := "(I)I" } : Jvm.MethodName) prog_14_method_26_code (4 : Nat) (Option.some Jvm.ClassFile.FieldType.int)) ∈ mw_tbl := mwt_6 12 rfl rfl
set_option maxRecDepth 100000 in
theorem v1293 : (Jvm.Cond.methodLink "HalfOrdersLaw" (47 : Nat) ({ cls := "HalfOrdersModel", name := "row", desc := "(I)I" } : Jvm.MethodName)) ∈ mw_tbl := mwt_6 9 rfl rfl
set_option maxRecDepth 100000 in
theorem v1294 : (Jvm.Cond.instanceMethod ({ cls := "HalfOrdersModel", name := "row", desc := "(I)I" } : Jvm.MethodName)) ∈ mw_tbl := mwt_6 10 rfl rfl
set_option maxRecDepth 100000 in
theorem v1295 : (Jvm.Cond.selects "HalfOrdersModel" ({ cls := "HalfOrdersModel", name := "row", desc := "(I)I" } : Jvm.MethodName) ({ cls := "HalfOrdersModel", name := "row", desc := "(I)I" } : Jvm.MethodName)) ∈ mw_tbl := mwt_6 11 rfl rfl
theorem ww_X12_row : WW mi_X12_row 47 1 := ⟨v1296, v1293, v92, v1294, v1295, ⟨by decide, by decide, by decide +kernel⟩, by decide⟩
set_option synthInstance.maxSize 4096 in
set_option synthInstance.maxHeartbeats 400000 in
set_option maxRecDepth 100000 in
theorem dec_411 : caseD 411 1 44 47 996 := by unfold caseD argD; decide +kernel
set_option maxRecDepth 100000 in
theorem v576 : (Jvm.Cond.code ({ cls := "HalfOrders", name := "dual", desc := "(I)I" } : Jvm.MethodName) prog_1_method_10_code (6 : Nat) (Option.some Jvm.ClassFile.FieldType.int)) ∈ mw_tbl := mwt_3 12 rfl rfl
set_option maxRecDepth 100000 in
theorem v573 : (Jvm.Cond.methodLink "HalfOrdersLaw" (48 : Nat) ({ cls := "HalfOrders", name := "dual", desc := "(I)I" } : Jvm.MethodName)) ∈ mw_tbl := mwt_3 9 rfl rfl
set_option maxRecDepth 100000 in
theorem v574 : (Jvm.Cond.instanceMethod ({ cls := "HalfOrders", name := "dual", desc := "(I)I" } : Jvm.MethodName)) ∈ mw_tbl := mwt_3 10 rfl rfl
set_option maxRecDepth 100000 in
theorem v575 : (Jvm.Cond.selects "HalfOrders" ({ cls := "HalfOrders", name := "dual", desc := "(I)I" } : Jvm.MethodName) ({ cls := "HalfOrders", name := "dual", desc := "(I)I" } : Jvm.MethodName)) ∈ mw_tbl := mwt_3 11 rfl rfl
theorem ww_X11_dual : WW mi_X11_dual 48 1 := ⟨v576, v573, v85, v574, v575, ⟨by decide, by decide, by decide +kernel⟩, by decide⟩
set_option maxRecDepth 100000 in
theorem v1300 : (Jvm.Cond.code ({ cls := "HalfOrdersModel", name := "dual", desc := "(I)I" } : Jvm.MethodName) prog_14_method_27_code (5 : Nat) (Option.some Jvm.ClassFile.FieldType.int)) ∈ mw_tbl := mwt_6 16 rfl rfl
set_option maxRecDepth 100000 in
theorem v1297 : (Jvm.Cond.methodLink "HalfOrdersLaw" (51 : Nat) ({ cls := "HalfOrdersModel", name := "dual", desc := "(I)I" } : Jvm.MethodName)) ∈ mw_tbl := mwt_6 13 rfl rfl
set_option maxRecDepth 100000 in
theorem v1298 : (Jvm.Cond.instanceMethod ({ cls := "HalfOrdersModel", name := "dual", desc := "(I)I" } : Jvm.MethodName)) ∈ mw_tbl := mwt_6 14 rfl rfl
set_option maxRecDepth 100000 in
theorem v1299 : (Jvm.Cond.selects "HalfOrdersModel" ({ cls := "HalfOrdersModel", name := "dual", desc := "(I)I" } : Jvm.MethodName) ({ cls := "HalfOrdersModel", name := "dual", desc := "(I)I" } : Jvm.MethodName)) ∈ mw_tbl := mwt_6 15 rfl rfl
theorem ww_X12_dual : WW mi_X12_dual 51 1 := ⟨v1300, v1297, v92, v1298, v1299, ⟨by decide, by decide, by decide +kernel⟩, by decide⟩
set_option synthInstance.maxSize 4096 in
set_option synthInstance.maxHeartbeats 400000 in
set_option maxRecDepth 100000 in
theorem dec_434 : caseD 434 1 48 51 973 := by unfold caseD argD; decide +kernel
set_option maxRecDepth 100000 in
theorem v580 : (Jvm.Cond.code ({ cls := "HalfOrders", name := "part", desc := "(II)I" } : Jvm.MethodName) prog_1_method_11_code (8 : Nat) (Option.some Jvm.ClassFile.FieldType.int)) ∈ mw_tbl := mwt_3 16 rfl rfl
set_option maxRecDepth 100000 in
theorem v577 : (Jvm.Cond.methodLink "HalfOrdersLaw" (52 : Nat) ({ cls := "HalfOrders", name := "part", desc := "(II)I" } : Jvm.MethodName)) ∈ mw_tbl := mwt_3 13 rfl rfl
set_option maxRecDepth 100000 in
theorem v578 : (Jvm.Cond.instanceMethod ({ cls := "HalfOrders", name := "part", desc := "(II)I" } : Jvm.MethodName)) ∈ mw_tbl := mwt_3 14 rfl rfl
set_option maxRecDepth 100000 in
theorem v579 : (Jvm.Cond.selects "HalfOrders" ({ cls := "HalfOrders", name := "part", desc := "(II)I" } : Jvm.MethodName) ({ cls := "HalfOrders", name := "part", desc := "(II)I" } : Jvm.MethodName)) ∈ mw_tbl := mwt_3 15 rfl rfl
theorem ww_X11_part : WW mi_X11_part 52 2 := ⟨v580, v577, v85, v578, v579, ⟨by decide, by decide, by decide +kernel⟩, by decide⟩
set_option maxRecDepth 100000 in
theorem v1304 : (Jvm.Cond.code ({ cls := "HalfOrdersModel", name := "part", desc := "(II)I" } : Jvm.MethodName) prog_14_method_29_code (6 : Nat) (Option.some Jvm.ClassFile.FieldType.int)) ∈ mw_tbl := mwt_6 20 rfl rfl
set_option maxRecDepth 100000 in
theorem v1301 : (Jvm.Cond.methodLink "HalfOrdersLaw" (55 : Nat) ({ cls := "HalfOrdersModel", name := "part", desc := "(II)I" } : Jvm.MethodName)) ∈ mw_tbl := mwt_6 17 rfl rfl
set_option maxRecDepth 100000 in
theorem v1302 : (Jvm.Cond.instanceMethod ({ cls := "HalfOrdersModel", name := "part", desc := "(II)I" } : Jvm.MethodName)) ∈ mw_tbl := mwt_6 18 rfl rfl
set_option maxRecDepth 100000 in
theorem v1303 : (Jvm.Cond.selects "HalfOrdersModel" ({ cls := "HalfOrdersModel", name := "part", desc := "(II)I" } : Jvm.MethodName) ({ cls := "HalfOrdersModel", name := "part", desc := "(II)I" } : Jvm.MethodName)) ∈ mw_tbl := mwt_6 19 rfl rfl
theorem ww_X12_part : WW mi_X12_part 55 2 := ⟨v1304, v1301, v92, v1302, v1303, ⟨by decide, by decide, by decide +kernel⟩, by decide⟩
set_option synthInstance.maxSize 4096 in
set_option synthInstance.maxHeartbeats 400000 in
set_option maxRecDepth 100000 in
theorem dec_457 : caseD 457 2 52 55 940 := by unfold caseD argD; decide +kernel
set_option maxRecDepth 100000 in
theorem v595 : (Jvm.Cond.code ({ cls := "HalfOrders", name := "drop", desc := "()I" } : Jvm.MethodName) prog_1_method_12_code (1 : Nat) (Option.some Jvm.ClassFile.FieldType.int)) ∈ mw_tbl := mwt_3 31 rfl rfl
set_option maxRecDepth 100000 in
theorem v592 : (Jvm.Cond.methodLink "HalfOrdersLaw" (56 : Nat) ({ cls := "HalfOrders", name := "drop", desc := "()I" } : Jvm.MethodName)) ∈ mw_tbl := mwt_3 28 rfl rfl
set_option maxRecDepth 100000 in
theorem v593 : (Jvm.Cond.instanceMethod ({ cls := "HalfOrders", name := "drop", desc := "()I" } : Jvm.MethodName)) ∈ mw_tbl := mwt_3 29 rfl rfl
set_option maxRecDepth 100000 in
theorem v594 : (Jvm.Cond.selects "HalfOrders" ({ cls := "HalfOrders", name := "drop", desc := "()I" } : Jvm.MethodName) ({ cls := "HalfOrders", name := "drop", desc := "()I" } : Jvm.MethodName)) ∈ mw_tbl := mwt_3 30 rfl rfl
theorem ww_X11_drop : WW mi_X11_drop 56 0 := ⟨v595, v592, v85, v593, v594, ⟨by decide, by decide, by decide +kernel⟩, by decide⟩
set_option maxRecDepth 100000 in
theorem v1314 : (Jvm.Cond.code ({ cls := "HalfOrdersModel", name := "drop", desc := "()I" } : Jvm.MethodName) prog_14_method_30_code (1 : Nat) (Option.some Jvm.ClassFile.FieldType.int)) ∈ mw_tbl := mwt_6 30 rfl rfl
set_option maxRecDepth 100000 in
theorem v1311 : (Jvm.Cond.methodLink "HalfOrdersLaw" (60 : Nat) ({ cls := "HalfOrdersModel", name := "drop", desc := "()I" } : Jvm.MethodName)) ∈ mw_tbl := mwt_6 27 rfl rfl
set_option maxRecDepth 100000 in
theorem v1312 : (Jvm.Cond.instanceMethod ({ cls := "HalfOrdersModel", name := "drop", desc := "()I" } : Jvm.MethodName)) ∈ mw_tbl := mwt_6 28 rfl rfl
set_option maxRecDepth 100000 in
theorem v1313 : (Jvm.Cond.selects "HalfOrdersModel" ({ cls := "HalfOrdersModel", name := "drop", desc := "()I" } : Jvm.MethodName) ({ cls := "HalfOrdersModel", name := "drop", desc := "()I" } : Jvm.MethodName)) ∈ mw_tbl := mwt_6 29 rfl rfl
theorem ww_X12_drop : WW mi_X12_drop 60 0 := ⟨v1314, v1311, v92, v1312, v1313, ⟨by decide, by decide, by decide +kernel⟩, by decide⟩
set_option synthInstance.maxSize 4096 in
set_option synthInstance.maxHeartbeats 400000 in
set_option maxRecDepth 100000 in
theorem dec_490 : caseD 490 0 56 60 927 := by unfold caseD argD; decide +kernel
set_option maxRecDepth 100000 in
theorem v603 : (Jvm.Cond.code ({ cls := "HalfOrders", name := "told", desc := "(II)I" } : Jvm.MethodName) prog_1_method_13_code (4 : Nat) (Option.some Jvm.ClassFile.FieldType.int)) ∈ mw_tbl := mwt_3 39 rfl rfl
set_option maxRecDepth 100000 in
theorem v600 : (Jvm.Cond.methodLink "HalfOrdersLaw" (61 : Nat) ({ cls := "HalfOrders", name := "told", desc := "(II)I" } : Jvm.MethodName)) ∈ mw_tbl := mwt_3 36 rfl rfl
set_option maxRecDepth 100000 in
theorem v601 : (Jvm.Cond.instanceMethod ({ cls := "HalfOrders", name := "told", desc := "(II)I" } : Jvm.MethodName)) ∈ mw_tbl := mwt_3 37 rfl rfl
set_option maxRecDepth 100000 in
theorem v602 : (Jvm.Cond.selects "HalfOrders" ({ cls := "HalfOrders", name := "told", desc := "(II)I" } : Jvm.MethodName) ({ cls := "HalfOrders", name := "told", desc := "(II)I" } : Jvm.MethodName)) ∈ mw_tbl := mwt_3 38 rfl rfl
theorem ww_X11_told : WW mi_X11_told 61 2 := ⟨v603, v600, v85, v601, v602, ⟨by decide, by decide, by decide +kernel⟩, by decide⟩
set_option maxRecDepth 100000 in
theorem v1455 : (Jvm.Cond.code ({ cls := "HalfOrdersModel", name := "told", desc := "(II)I" } : Jvm.MethodName) prog_14_method_67_code (3 : Nat) (Option.some Jvm.ClassFile.FieldType.int)) ∈ mw_tbl := mwt_6 171 rfl rfl
set_option maxRecDepth 100000 in
theorem v1452 : (Jvm.Cond.methodLink "HalfOrdersLaw" (64 : Nat) ({ cls := "HalfOrdersModel", name := "told", desc := "(II)I" } : Jvm.MethodName)) ∈ mw_tbl := mwt_6 168 rfl rfl
set_option maxRecDepth 100000 in
theorem v1453 : (Jvm.Cond.instanceMethod ({ cls := "HalfOrdersModel", name := "told", desc := "(II)I" } : Jvm.MethodName)) ∈ mw_tbl := mwt_6 169 rfl rfl
set_option maxRecDepth 100000 in
theorem v1454 : (Jvm.Cond.selects "HalfOrdersModel" ({ cls := "HalfOrdersModel", name := "told", desc := "(II)I" } : Jvm.MethodName) ({ cls := "HalfOrdersModel", name := "told", desc := "(II)I" } : Jvm.MethodName)) ∈ mw_tbl := mwt_6 170 rfl rfl
theorem ww_X12_told : WW mi_X12_told 64 2 := ⟨v1455, v1452, v92, v1453, v1454, ⟨by decide, by decide, by decide +kernel⟩, by decide⟩
set_option synthInstance.maxSize 4096 in
set_option synthInstance.maxHeartbeats 400000 in
set_option maxRecDepth 100000 in
theorem dec_503 : caseD 503 2 61 64 894 := by unfold caseD argD; decide +kernel
set_option maxRecDepth 100000 in
theorem v737 : (Jvm.Cond.code ({ cls := "HalfOrders", name := "count", desc := "(I)I" } : Jvm.MethodName) prog_1_method_14_code (2 : Nat) (Option.some Jvm.ClassFile.FieldType.int)) ∈ mw_tbl := mwt_3 173 rfl rfl
set_option maxRecDepth 100000 in
theorem v734 : (Jvm.Cond.methodLink "HalfOrdersLaw" (65 : Nat) ({ cls := "HalfOrders", name := "count", desc := "(I)I" } : Jvm.MethodName)) ∈ mw_tbl := mwt_3 170 rfl rfl
set_option maxRecDepth 100000 in
theorem v735 : (Jvm.Cond.instanceMethod ({ cls := "HalfOrders", name := "count", desc := "(I)I" } : Jvm.MethodName)) ∈ mw_tbl := mwt_3 171 rfl rfl
set_option maxRecDepth 100000 in
theorem v736 : (Jvm.Cond.selects "HalfOrders" ({ cls := "HalfOrders", name := "count", desc := "(I)I" } : Jvm.MethodName) ({ cls := "HalfOrders", name := "count", desc := "(I)I" } : Jvm.MethodName)) ∈ mw_tbl := mwt_3 172 rfl rfl
theorem ww_X11_count : WW mi_X11_count 65 1 := ⟨v737, v734, v85, v735, v736, ⟨by decide, by decide, by decide +kernel⟩, by decide⟩
set_option maxRecDepth 100000 in
theorem v1480 : (Jvm.Cond.code ({ cls := "HalfOrdersModel", name := "count", desc := "(I)I" } : Jvm.MethodName) prog_14_method_69_code (2 : Nat) (Option.some Jvm.ClassFile.FieldType.int)) ∈ mw_tbl := mwt_6 196 rfl rfl
set_option maxRecDepth 100000 in
theorem v1477 : (Jvm.Cond.methodLink "HalfOrdersLaw" (68 : Nat) ({ cls := "HalfOrdersModel", name := "count", desc := "(I)I" } : Jvm.MethodName)) ∈ mw_tbl := mwt_6 193 rfl rfl
set_option maxRecDepth 100000 in
theorem v1478 : (Jvm.Cond.instanceMethod ({ cls := "HalfOrdersModel", name := "count", desc := "(I)I" } : Jvm.MethodName)) ∈ mw_tbl := mwt_6 194 rfl rfl
set_option maxRecDepth 100000 in
theorem v1479 : (Jvm.Cond.selects "HalfOrdersModel" ({ cls := "HalfOrdersModel", name := "count", desc := "(I)I" } : Jvm.MethodName) ({ cls := "HalfOrdersModel", name := "count", desc := "(I)I" } : Jvm.MethodName)) ∈ mw_tbl := mwt_6 195 rfl rfl
theorem ww_X12_count : WW mi_X12_count 68 1 := ⟨v1480, v1477, v92, v1478, v1479, ⟨by decide, by decide, by decide +kernel⟩, by decide⟩
set_option synthInstance.maxSize 4096 in
set_option synthInstance.maxHeartbeats 400000 in
set_option maxRecDepth 100000 in
theorem dec_536 : caseD 536 1 65 68 871 := by unfold caseD argD; decide +kernel
set_option maxRecDepth 100000 in
theorem v741 : (Jvm.Cond.code ({ cls := "HalfOrders", name := "below", desc := "(III)I" } : Jvm.MethodName) prog_1_method_15_code (5 : Nat) (Option.some Jvm.ClassFile.FieldType.int)) ∈ mw_tbl := mwt_3 177 rfl rfl
set_option maxRecDepth 100000 in
theorem v738 : (Jvm.Cond.methodLink "HalfOrdersLaw" (69 : Nat) ({ cls := "HalfOrders", name := "below", desc := "(III)I" } : Jvm.MethodName)) ∈ mw_tbl := mwt_3 174 rfl rfl
set_option maxRecDepth 100000 in
theorem v739 : (Jvm.Cond.instanceMethod ({ cls := "HalfOrders", name := "below", desc := "(III)I" } : Jvm.MethodName)) ∈ mw_tbl := mwt_3 175 rfl rfl
set_option maxRecDepth 100000 in
theorem v740 : (Jvm.Cond.selects "HalfOrders" ({ cls := "HalfOrders", name := "below", desc := "(III)I" } : Jvm.MethodName) ({ cls := "HalfOrders", name := "below", desc := "(III)I" } : Jvm.MethodName)) ∈ mw_tbl := mwt_3 176 rfl rfl
theorem ww_X11_below : WW mi_X11_below 69 3 := ⟨v741, v738, v85, v739, v740, ⟨by decide, by decide, by decide +kernel⟩, by decide⟩
set_option maxRecDepth 100000 in
theorem v1484 : (Jvm.Cond.code ({ cls := "HalfOrdersModel", name := "below", desc := "(III)I" } : Jvm.MethodName) prog_14_method_70_code (4 : Nat) (Option.some Jvm.ClassFile.FieldType.int)) ∈ mw_tbl := mwt_6 200 rfl rfl
set_option maxRecDepth 100000 in
theorem v1481 : (Jvm.Cond.methodLink "HalfOrdersLaw" (72 : Nat) ({ cls := "HalfOrdersModel", name := "below", desc := "(III)I" } : Jvm.MethodName)) ∈ mw_tbl := mwt_6 197 rfl rfl
set_option maxRecDepth 100000 in
theorem v1482 : (Jvm.Cond.instanceMethod ({ cls := "HalfOrdersModel", name := "below", desc := "(III)I" } : Jvm.MethodName)) ∈ mw_tbl := mwt_6 198 rfl rfl
set_option maxRecDepth 100000 in
theorem v1483 : (Jvm.Cond.selects "HalfOrdersModel" ({ cls := "HalfOrdersModel", name := "below", desc := "(III)I" } : Jvm.MethodName) ({ cls := "HalfOrdersModel", name := "below", desc := "(III)I" } : Jvm.MethodName)) ∈ mw_tbl := mwt_6 199 rfl rfl
theorem ww_X12_below : WW mi_X12_below 72 3 := ⟨v1484, v1481, v92, v1482, v1483, ⟨by decide, by decide, by decide +kernel⟩, by decide⟩
set_option synthInstance.maxSize 4096 in
set_option synthInstance.maxHeartbeats 400000 in
set_option maxRecDepth 100000 in
theorem dec_559 : caseD 559 3 69 72 828 := by unfold caseD argD; decide +kernel
set_option maxRecDepth 100000 in
theorem v746 : (Jvm.Cond.code ({ cls := "HalfOrders", name := "widest", desc := "(I)I" } : Jvm.MethodName) prog_1_method_16_code (3 : Nat) (Option.some Jvm.ClassFile.FieldType.int)) ∈ mw_tbl := mwt_3 182 rfl rfl
set_option maxRecDepth 100000 in
theorem v743 : (Jvm.Cond.methodLink "HalfOrdersLaw" (73 : Nat) ({ cls := "HalfOrders", name := "widest", desc := "(I)I" } : Jvm.MethodName)) ∈ mw_tbl := mwt_3 179 rfl rfl
set_option maxRecDepth 100000 in
theorem v744 : (Jvm.Cond.instanceMethod ({ cls := "HalfOrders", name := "widest", desc := "(I)I" } : Jvm.MethodName)) ∈ mw_tbl := mwt_3 180 rfl rfl
set_option maxRecDepth 100000 in
theorem v745 : (Jvm.Cond.selects "HalfOrders" ({ cls := "HalfOrders", name := "widest", desc := "(I)I" } : Jvm.MethodName) ({ cls := "HalfOrders", name := "widest", desc := "(I)I" } : Jvm.MethodName)) ∈ mw_tbl := mwt_3 181 rfl rfl
theorem ww_X11_widest : WW mi_X11_widest 73 1 := ⟨v746, v743, v85, v744, v745, ⟨by decide, by decide, by decide +kernel⟩, by decide⟩
set_option maxRecDepth 100000 in
theorem v1359 : (Jvm.Cond.code ({ cls := "HalfOrdersModel", name := "widest", desc := "(I)I" } : Jvm.MethodName) prog_14_method_43_code (2 : Nat) (Option.some Jvm.ClassFile.FieldType.int)) ∈ mw_tbl := mwt_6 75 rfl rfl
set_option maxRecDepth 100000 in
theorem v1356 : (Jvm.Cond.methodLink "HalfOrdersLaw" (76 : Nat) ({ cls := "HalfOrdersModel", name := "widest", desc := "(I)I" } : Jvm.MethodName)) ∈ mw_tbl := mwt_6 72 rfl rfl
set_option maxRecDepth 100000 in
theorem v1357 : (Jvm.Cond.instanceMethod ({ cls := "HalfOrdersModel", name := "widest", desc := "(I)I" } : Jvm.MethodName)) ∈ mw_tbl := mwt_6 73 rfl rfl
set_option maxRecDepth 100000 in
theorem v1358 : (Jvm.Cond.selects "HalfOrdersModel" ({ cls := "HalfOrdersModel", name := "widest", desc := "(I)I" } : Jvm.MethodName) ({ cls := "HalfOrdersModel", name := "widest", desc := "(I)I" } : Jvm.MethodName)) ∈ mw_tbl := mwt_6 74 rfl rfl
theorem ww_X12_widest : WW mi_X12_widest 76 1 := ⟨v1359, v1356, v92, v1357, v1358, ⟨by decide, by decide, by decide +kernel⟩, by decide⟩
set_option synthInstance.maxSize 4096 in
set_option synthInstance.maxHeartbeats 400000 in
set_option maxRecDepth 100000 in
theorem dec_602 : caseD 602 1 73 76 805 := by unfold caseD argD; decide +kernel
set_option maxRecDepth 100000 in
theorem v750 : (Jvm.Cond.code ({ cls := "HalfOrders", name := "of", desc := "(III)I" } : Jvm.MethodName) prog_1_method_17_code (5 : Nat) (Option.some Jvm.ClassFile.FieldType.int)) ∈ mw_tbl := mwt_3 186 rfl rfl
set_option maxRecDepth 100000 in
theorem v747 : (Jvm.Cond.methodLink "HalfOrdersLaw" (77 : Nat) ({ cls := "HalfOrders", name := "of", desc := "(III)I" } : Jvm.MethodName)) ∈ mw_tbl := mwt_3 183 rfl rfl
set_option maxRecDepth 100000 in
theorem v748 : (Jvm.Cond.instanceMethod ({ cls := "HalfOrders", name := "of", desc := "(III)I" } : Jvm.MethodName)) ∈ mw_tbl := mwt_3 184 rfl rfl
set_option maxRecDepth 100000 in
theorem v749 : (Jvm.Cond.selects "HalfOrders" ({ cls := "HalfOrders", name := "of", desc := "(III)I" } : Jvm.MethodName) ({ cls := "HalfOrders", name := "of", desc := "(III)I" } : Jvm.MethodName)) ∈ mw_tbl := mwt_3 185 rfl rfl
theorem ww_X11_of : WW mi_X11_of 77 3 := ⟨v750, v747, v85, v748, v749, ⟨by decide, by decide, by decide +kernel⟩, by decide⟩
set_option maxRecDepth 100000 in
theorem v1374 : (Jvm.Cond.code ({ cls := "HalfOrdersModel", name := "of", desc := "(III)I" } : Jvm.MethodName) prog_14_method_48_code (4 : Nat) (Option.some Jvm.ClassFile.FieldType.int)) ∈ mw_tbl := mwt_6 90 rfl rfl
set_option maxRecDepth 100000 in
theorem v1371 : (Jvm.Cond.methodLink "HalfOrdersLaw" (80 : Nat) ({ cls := "HalfOrdersModel", name := "of", desc := "(III)I" } : Jvm.MethodName)) ∈ mw_tbl := mwt_6 87 rfl rfl
set_option maxRecDepth 100000 in
theorem v1372 : (Jvm.Cond.instanceMethod ({ cls := "HalfOrdersModel", name := "of", desc := "(III)I" } : Jvm.MethodName)) ∈ mw_tbl := mwt_6 88 rfl rfl
set_option maxRecDepth 100000 in
theorem v1373 : (Jvm.Cond.selects "HalfOrdersModel" ({ cls := "HalfOrdersModel", name := "of", desc := "(III)I" } : Jvm.MethodName) ({ cls := "HalfOrdersModel", name := "of", desc := "(III)I" } : Jvm.MethodName)) ∈ mw_tbl := mwt_6 89 rfl rfl
theorem ww_X12_of : WW mi_X12_of 80 3 := ⟨v1374, v1371, v92, v1372, v1373, ⟨by decide, by decide, by decide +kernel⟩, by decide⟩
set_option synthInstance.maxSize 4096 in
set_option synthInstance.maxHeartbeats 400000 in
set_option maxRecDepth 100000 in
theorem dec_625 : caseD 625 3 77 80 762 := by unfold caseD argD; decide +kernel
set_option maxRecDepth 100000 in
theorem v779 : (Jvm.Cond.code ({ cls := "HalfOrders", name := "low", desc := "(II)I" } : Jvm.MethodName) prog_1_method_18_code (4 : Nat) (Option.some Jvm.ClassFile.FieldType.int)) ∈ mw_tbl := mwt_3 215 rfl rfl
set_option maxRecDepth 100000 in
theorem v776 : (Jvm.Cond.methodLink "HalfOrdersLaw" (81 : Nat) ({ cls := "HalfOrders", name := "low", desc := "(II)I" } : Jvm.MethodName)) ∈ mw_tbl := mwt_3 212 rfl rfl
set_option maxRecDepth 100000 in
theorem v777 : (Jvm.Cond.instanceMethod ({ cls := "HalfOrders", name := "low", desc := "(II)I" } : Jvm.MethodName)) ∈ mw_tbl := mwt_3 213 rfl rfl
set_option maxRecDepth 100000 in
theorem v778 : (Jvm.Cond.selects "HalfOrders" ({ cls := "HalfOrders", name := "low", desc := "(II)I" } : Jvm.MethodName) ({ cls := "HalfOrders", name := "low", desc := "(II)I" } : Jvm.MethodName)) ∈ mw_tbl := mwt_3 214 rfl rfl
theorem ww_X11_low : WW mi_X11_low 81 2 := ⟨v779, v776, v85, v777, v778, ⟨by decide, by decide, by decide +kernel⟩, by decide⟩
set_option maxRecDepth 100000 in
theorem v1488 : (Jvm.Cond.code ({ cls := "HalfOrdersModel", name := "low", desc := "(II)I" } : Jvm.MethodName) prog_14_method_71_code (3 : Nat) (Option.some Jvm.ClassFile.FieldType.int)) ∈ mw_tbl := mwt_6 204 rfl rfl
set_option maxRecDepth 100000 in
theorem v1485 : (Jvm.Cond.methodLink "HalfOrdersLaw" (84 : Nat) ({ cls := "HalfOrdersModel", name := "low", desc := "(II)I" } : Jvm.MethodName)) ∈ mw_tbl := mwt_6 201 rfl rfl
set_option maxRecDepth 100000 in
theorem v1486 : (Jvm.Cond.instanceMethod ({ cls := "HalfOrdersModel", name := "low", desc := "(II)I" } : Jvm.MethodName)) ∈ mw_tbl := mwt_6 202 rfl rfl
set_option maxRecDepth 100000 in
theorem v1487 : (Jvm.Cond.selects "HalfOrdersModel" ({ cls := "HalfOrdersModel", name := "low", desc := "(II)I" } : Jvm.MethodName) ({ cls := "HalfOrdersModel", name := "low", desc := "(II)I" } : Jvm.MethodName)) ∈ mw_tbl := mwt_6 203 rfl rfl
theorem ww_X12_low : WW mi_X12_low 84 2 := ⟨v1488, v1485, v92, v1486, v1487, ⟨by decide, by decide, by decide +kernel⟩, by decide⟩
set_option synthInstance.maxSize 4096 in
set_option synthInstance.maxHeartbeats 400000 in
set_option maxRecDepth 100000 in
theorem dec_668 : caseD 668 2 81 84 729 := by unfold caseD argD; decide +kernel
set_option maxRecDepth 100000 in
theorem v787 : (Jvm.Cond.code ({ cls := "HalfOrders", name := "rowOut", desc := "(III)I" } : Jvm.MethodName) prog_1_method_19_code (5 : Nat) (Option.some Jvm.ClassFile.FieldType.int)) ∈ mw_tbl := mwt_3 223 rfl rfl
set_option maxRecDepth 100000 in
theorem v784 : (Jvm.Cond.methodLink "HalfOrdersLaw" (85 : Nat) ({ cls := "HalfOrders", name := "rowOut", desc := "(III)I" } : Jvm.MethodName)) ∈ mw_tbl := mwt_3 220 rfl rfl
set_option maxRecDepth 100000 in
theorem v785 : (Jvm.Cond.instanceMethod ({ cls := "HalfOrders", name := "rowOut", desc := "(III)I" } : Jvm.MethodName)) ∈ mw_tbl := mwt_3 221 rfl rfl
set_option maxRecDepth 100000 in
theorem v786 : (Jvm.Cond.selects "HalfOrders" ({ cls := "HalfOrders", name := "rowOut", desc := "(III)I" } : Jvm.MethodName) ({ cls := "HalfOrders", name := "rowOut", desc := "(III)I" } : Jvm.MethodName)) ∈ mw_tbl := mwt_3 222 rfl rfl
theorem ww_X11_rowOut : WW mi_X11_rowOut 85 3 := ⟨v787, v784, v85, v785, v786, ⟨by decide, by decide, by decide +kernel⟩, by decide⟩
set_option maxRecDepth 100000 in
theorem v1318 : (Jvm.Cond.code ({ cls := "HalfOrdersModel", name := "rowOut", desc := "(III)I" } : Jvm.MethodName) prog_14_method_36_code (4 : Nat) (Option.some Jvm.ClassFile.FieldType.int)) ∈ mw_tbl := mwt_6 34 rfl rfl
set_option maxRecDepth 100000 in
theorem v1315 : (Jvm.Cond.methodLink "HalfOrdersLaw" (88 : Nat) ({ cls := "HalfOrdersModel", name := "rowOut", desc := "(III)I" } : Jvm.MethodName)) ∈ mw_tbl := mwt_6 31 rfl rfl
set_option maxRecDepth 100000 in
theorem v1316 : (Jvm.Cond.instanceMethod ({ cls := "HalfOrdersModel", name := "rowOut", desc := "(III)I" } : Jvm.MethodName)) ∈ mw_tbl := mwt_6 32 rfl rfl
set_option maxRecDepth 100000 in
theorem v1317 : (Jvm.Cond.selects "HalfOrdersModel" ({ cls := "HalfOrdersModel", name := "rowOut", desc := "(III)I" } : Jvm.MethodName) ({ cls := "HalfOrdersModel", name := "rowOut", desc := "(III)I" } : Jvm.MethodName)) ∈ mw_tbl := mwt_6 33 rfl rfl
theorem ww_X12_rowOut : WW mi_X12_rowOut 88 3 := ⟨v1318, v1315, v92, v1316, v1317, ⟨by decide, by decide, by decide +kernel⟩, by decide⟩
set_option synthInstance.maxSize 4096 in
set_option synthInstance.maxHeartbeats 400000 in
set_option maxRecDepth 100000 in
theorem dec_701 : caseD 701 3 85 88 686 := by unfold caseD argD; decide +kernel
set_option maxRecDepth 100000 in
theorem v800 : (Jvm.Cond.code ({ cls := "HalfOrders", name := "before", desc := "(III)I" } : Jvm.MethodName) prog_1_method_20_code (5 : Nat) (Option.some Jvm.ClassFile.FieldType.int)) ∈ mw_tbl := mwt_3 236 rfl rfl
set_option maxRecDepth 100000 in
theorem v797 : (Jvm.Cond.methodLink "HalfOrdersLaw" (89 : Nat) ({ cls := "HalfOrders", name := "before", desc := "(III)I" } : Jvm.MethodName)) ∈ mw_tbl := mwt_3 233 rfl rfl
set_option maxRecDepth 100000 in
theorem v798 : (Jvm.Cond.instanceMethod ({ cls := "HalfOrders", name := "before", desc := "(III)I" } : Jvm.MethodName)) ∈ mw_tbl := mwt_3 234 rfl rfl
set_option maxRecDepth 100000 in
theorem v799 : (Jvm.Cond.selects "HalfOrders" ({ cls := "HalfOrders", name := "before", desc := "(III)I" } : Jvm.MethodName) ({ cls := "HalfOrders", name := "before", desc := "(III)I" } : Jvm.MethodName)) ∈ mw_tbl := mwt_3 235 rfl rfl
theorem ww_X11_before : WW mi_X11_before 89 3 := ⟨v800, v797, v85, v798, v799, ⟨by decide, by decide, by decide +kernel⟩, by decide⟩
set_option maxRecDepth 100000 in
theorem v1338 : (Jvm.Cond.code ({ cls := "HalfOrdersModel", name := "before", desc := "(III)I" } : Jvm.MethodName) prog_14_method_37_code (4 : Nat) (Option.some Jvm.ClassFile.FieldType.int)) ∈ mw_tbl := mwt_6 54 rfl rfl
set_option maxRecDepth 100000 in
theorem v1335 : (Jvm.Cond.methodLink "HalfOrdersLaw" (92 : Nat) ({ cls := "HalfOrdersModel", name := "before", desc := "(III)I" } : Jvm.MethodName)) ∈ mw_tbl := mwt_6 51 rfl rfl
set_option maxRecDepth 100000 in
theorem v1336 : (Jvm.Cond.instanceMethod ({ cls := "HalfOrdersModel", name := "before", desc := "(III)I" } : Jvm.MethodName)) ∈ mw_tbl := mwt_6 52 rfl rfl
set_option maxRecDepth 100000 in
theorem v1337 : (Jvm.Cond.selects "HalfOrdersModel" ({ cls := "HalfOrdersModel", name := "before", desc := "(III)I" } : Jvm.MethodName) ({ cls := "HalfOrdersModel", name := "before", desc := "(III)I" } : Jvm.MethodName)) ∈ mw_tbl := mwt_6 53 rfl rfl
theorem ww_X12_before : WW mi_X12_before 92 3 := ⟨v1338, v1335, v92, v1336, v1337, ⟨by decide, by decide, by decide +kernel⟩, by decide⟩
set_option synthInstance.maxSize 4096 in
set_option synthInstance.maxHeartbeats 400000 in
set_option maxRecDepth 100000 in
theorem dec_744 : caseD 744 3 89 92 643 := by unfold caseD argD; decide +kernel
set_option maxRecDepth 100000 in
theorem v812 : (Jvm.Cond.code ({ cls := "HalfOrders", name := "places", desc := "(II)J" } : Jvm.MethodName) prog_1_method_21_code (4 : Nat) (Option.some Jvm.ClassFile.FieldType.long)) ∈ mw_tbl := mwt_4 8 rfl rfl
set_option maxRecDepth 100000 in
theorem v809 : (Jvm.Cond.methodLink "HalfOrdersLaw" (93 : Nat) ({ cls := "HalfOrders", name := "places", desc := "(II)J" } : Jvm.MethodName)) ∈ mw_tbl := mwt_4 5 rfl rfl
set_option maxRecDepth 100000 in
theorem v810 : (Jvm.Cond.instanceMethod ({ cls := "HalfOrders", name := "places", desc := "(II)J" } : Jvm.MethodName)) ∈ mw_tbl := mwt_4 6 rfl rfl
set_option maxRecDepth 100000 in
theorem v811 : (Jvm.Cond.selects "HalfOrders" ({ cls := "HalfOrders", name := "places", desc := "(II)J" } : Jvm.MethodName) ({ cls := "HalfOrders", name := "places", desc := "(II)J" } : Jvm.MethodName)) ∈ mw_tbl := mwt_4 7 rfl rfl
theorem ww_X11_places : WW mi_X11_places 93 2 := ⟨v812, v809, v85, v810, v811, ⟨by decide, by decide, by decide +kernel⟩, by decide⟩
set_option maxRecDepth 100000 in
theorem v1342 : (Jvm.Cond.code ({ cls := "HalfOrdersModel", name := "places", desc := "(II)J" } : Jvm.MethodName) prog_14_method_38_code (6 : Nat) (Option.some Jvm.ClassFile.FieldType.long)) ∈ mw_tbl := mwt_6 58 rfl rfl
set_option maxRecDepth 100000 in
theorem v1339 : (Jvm.Cond.methodLink "HalfOrdersLaw" (97 : Nat) ({ cls := "HalfOrdersModel", name := "places", desc := "(II)J" } : Jvm.MethodName)) ∈ mw_tbl := mwt_6 55 rfl rfl
set_option maxRecDepth 100000 in
theorem v1340 : (Jvm.Cond.instanceMethod ({ cls := "HalfOrdersModel", name := "places", desc := "(II)J" } : Jvm.MethodName)) ∈ mw_tbl := mwt_6 56 rfl rfl
set_option maxRecDepth 100000 in
theorem v1341 : (Jvm.Cond.selects "HalfOrdersModel" ({ cls := "HalfOrdersModel", name := "places", desc := "(II)J" } : Jvm.MethodName) ({ cls := "HalfOrdersModel", name := "places", desc := "(II)J" } : Jvm.MethodName)) ∈ mw_tbl := mwt_6 57 rfl rfl
theorem ww_X12_places : WW mi_X12_places 97 2 := ⟨v1342, v1339, v92, v1340, v1341, ⟨by decide, by decide, by decide +kernel⟩, by decide⟩
set_option synthInstance.maxSize 4096 in
set_option synthInstance.maxHeartbeats 400000 in
set_option maxRecDepth 100000 in
theorem dec_787 : caseDL 787 2 93 97 609 := by unfold caseDL argD; decide +kernel
set_option maxRecDepth 100000 in
theorem v822 : (Jvm.Cond.code ({ cls := "HalfOrders", name := "fair", desc := "(I)I" } : Jvm.MethodName) prog_1_method_22_code (3 : Nat) (Option.some Jvm.ClassFile.FieldType.int)) ∈ mw_tbl := mwt_4 18 rfl rfl
set_option maxRecDepth 100000 in
theorem v819 : (Jvm.Cond.methodLink "HalfOrdersLaw" (98 : Nat) ({ cls := "HalfOrders", name := "fair", desc := "(I)I" } : Jvm.MethodName)) ∈ mw_tbl := mwt_4 15 rfl rfl
set_option maxRecDepth 100000 in
theorem v820 : (Jvm.Cond.instanceMethod ({ cls := "HalfOrders", name := "fair", desc := "(I)I" } : Jvm.MethodName)) ∈ mw_tbl := mwt_4 16 rfl rfl
set_option maxRecDepth 100000 in
theorem v821 : (Jvm.Cond.selects "HalfOrders" ({ cls := "HalfOrders", name := "fair", desc := "(I)I" } : Jvm.MethodName) ({ cls := "HalfOrders", name := "fair", desc := "(I)I" } : Jvm.MethodName)) ∈ mw_tbl := mwt_4 17 rfl rfl
theorem ww_X11_fair : WW mi_X11_fair 98 1 := ⟨v822, v819, v85, v820, v821, ⟨by decide, by decide, by decide +kernel⟩, by decide⟩
set_option maxRecDepth 100000 in
theorem v1347 : (Jvm.Cond.code ({ cls := "HalfOrdersModel", name := "fair", desc := "(I)I" } : Jvm.MethodName) prog_14_method_39_code (6 : Nat) (Option.some Jvm.ClassFile.FieldType.int)) ∈ mw_tbl := mwt_6 63 rfl rfl
set_option maxRecDepth 100000 in
theorem v1344 : (Jvm.Cond.methodLink "HalfOrdersLaw" (101 : Nat) ({ cls := "HalfOrdersModel", name := "fair", desc := "(I)I" } : Jvm.MethodName)) ∈ mw_tbl := mwt_6 60 rfl rfl
set_option maxRecDepth 100000 in
theorem v1345 : (Jvm.Cond.instanceMethod ({ cls := "HalfOrdersModel", name := "fair", desc := "(I)I" } : Jvm.MethodName)) ∈ mw_tbl := mwt_6 61 rfl rfl
set_option maxRecDepth 100000 in
theorem v1346 : (Jvm.Cond.selects "HalfOrdersModel" ({ cls := "HalfOrdersModel", name := "fair", desc := "(I)I" } : Jvm.MethodName) ({ cls := "HalfOrdersModel", name := "fair", desc := "(I)I" } : Jvm.MethodName)) ∈ mw_tbl := mwt_6 62 rfl rfl
theorem ww_X12_fair : WW mi_X12_fair 101 1 := ⟨v1347, v1344, v92, v1345, v1346, ⟨by decide, by decide, by decide +kernel⟩, by decide⟩
set_option synthInstance.maxSize 4096 in
set_option synthInstance.maxHeartbeats 400000 in
set_option maxRecDepth 100000 in
theorem dec_821 : caseD 821 1 98 101 586 := by unfold caseD argD; decide +kernel
set_option maxRecDepth 100000 in
theorem v832 : (Jvm.Cond.code ({ cls := "HalfOrders", name := "two", desc := "(III)I" } : Jvm.MethodName) prog_1_method_23_code (5 : Nat) (Option.some Jvm.ClassFile.FieldType.int)) ∈ mw_tbl := mwt_4 28 rfl rfl
set_option maxRecDepth 100000 in
theorem v829 : (Jvm.Cond.methodLink "HalfOrdersLaw" (102 : Nat) ({ cls := "HalfOrders", name := "two", desc := "(III)I" } : Jvm.MethodName)) ∈ mw_tbl := mwt_4 25 rfl rfl
set_option maxRecDepth 100000 in
theorem v830 : (Jvm.Cond.instanceMethod ({ cls := "HalfOrders", name := "two", desc := "(III)I" } : Jvm.MethodName)) ∈ mw_tbl := mwt_4 26 rfl rfl
set_option maxRecDepth 100000 in
theorem v831 : (Jvm.Cond.selects "HalfOrders" ({ cls := "HalfOrders", name := "two", desc := "(III)I" } : Jvm.MethodName) ({ cls := "HalfOrders", name := "two", desc := "(III)I" } : Jvm.MethodName)) ∈ mw_tbl := mwt_4 27 rfl rfl
theorem ww_X11_two : WW mi_X11_two 102 3 := ⟨v832, v829, v85, v830, v831, ⟨by decide, by decide, by decide +kernel⟩, by decide⟩
set_option maxRecDepth 100000 in
theorem v1390 : (Jvm.Cond.code ({ cls := "HalfOrdersModel", name := "two", desc := "(III)I" } : Jvm.MethodName) prog_14_method_51_code (4 : Nat) (Option.some Jvm.ClassFile.FieldType.int)) ∈ mw_tbl := mwt_6 106 rfl rfl
set_option maxRecDepth 100000 in
theorem v1387 : (Jvm.Cond.methodLink "HalfOrdersLaw" (105 : Nat) ({ cls := "HalfOrdersModel", name := "two", desc := "(III)I" } : Jvm.MethodName)) ∈ mw_tbl := mwt_6 103 rfl rfl
set_option maxRecDepth 100000 in
theorem v1388 : (Jvm.Cond.instanceMethod ({ cls := "HalfOrdersModel", name := "two", desc := "(III)I" } : Jvm.MethodName)) ∈ mw_tbl := mwt_6 104 rfl rfl
set_option maxRecDepth 100000 in
theorem v1389 : (Jvm.Cond.selects "HalfOrdersModel" ({ cls := "HalfOrdersModel", name := "two", desc := "(III)I" } : Jvm.MethodName) ({ cls := "HalfOrdersModel", name := "two", desc := "(III)I" } : Jvm.MethodName)) ∈ mw_tbl := mwt_6 105 rfl rfl
theorem ww_X12_two : WW mi_X12_two 105 3 := ⟨v1390, v1387, v92, v1388, v1389, ⟨by decide, by decide, by decide +kernel⟩, by decide⟩
set_option synthInstance.maxSize 4096 in
set_option synthInstance.maxHeartbeats 400000 in
set_option maxRecDepth 100000 in
theorem dec_844 : caseD 844 3 102 105 543 := by unfold caseD argD; decide +kernel
set_option maxRecDepth 100000 in
theorem v851 : (Jvm.Cond.code ({ cls := "HalfOrders", name := "invert", desc := "(III)I" } : Jvm.MethodName) prog_1_method_24_code (5 : Nat) (Option.some Jvm.ClassFile.FieldType.int)) ∈ mw_tbl := mwt_4 47 rfl rfl
set_option maxRecDepth 100000 in
theorem v848 : (Jvm.Cond.methodLink "HalfOrdersLaw" (106 : Nat) ({ cls := "HalfOrders", name := "invert", desc := "(III)I" } : Jvm.MethodName)) ∈ mw_tbl := mwt_4 44 rfl rfl
set_option maxRecDepth 100000 in
theorem v849 : (Jvm.Cond.instanceMethod ({ cls := "HalfOrders", name := "invert", desc := "(III)I" } : Jvm.MethodName)) ∈ mw_tbl := mwt_4 45 rfl rfl
set_option maxRecDepth 100000 in
theorem v850 : (Jvm.Cond.selects "HalfOrders" ({ cls := "HalfOrders", name := "invert", desc := "(III)I" } : Jvm.MethodName) ({ cls := "HalfOrders", name := "invert", desc := "(III)I" } : Jvm.MethodName)) ∈ mw_tbl := mwt_4 46 rfl rfl
theorem ww_X11_invert : WW mi_X11_invert 106 3 := ⟨v851, v848, v85, v849, v850, ⟨by decide, by decide, by decide +kernel⟩, by decide⟩
set_option maxRecDepth 100000 in
theorem v1434 : (Jvm.Cond.code ({ cls := "HalfOrdersModel", name := "invert", desc := "(III)I" } : Jvm.MethodName) prog_14_method_60_code (8 : Nat) (Option.some Jvm.ClassFile.FieldType.int)) ∈ mw_tbl := mwt_6 150 rfl rfl
set_option maxRecDepth 100000 in
theorem v1431 : (Jvm.Cond.methodLink "HalfOrdersLaw" (109 : Nat) ({ cls := "HalfOrdersModel", name := "invert", desc := "(III)I" } : Jvm.MethodName)) ∈ mw_tbl := mwt_6 147 rfl rfl
set_option maxRecDepth 100000 in
theorem v1432 : (Jvm.Cond.instanceMethod ({ cls := "HalfOrdersModel", name := "invert", desc := "(III)I" } : Jvm.MethodName)) ∈ mw_tbl := mwt_6 148 rfl rfl
set_option maxRecDepth 100000 in
theorem v1433 : (Jvm.Cond.selects "HalfOrdersModel" ({ cls := "HalfOrdersModel", name := "invert", desc := "(III)I" } : Jvm.MethodName) ({ cls := "HalfOrdersModel", name := "invert", desc := "(III)I" } : Jvm.MethodName)) ∈ mw_tbl := mwt_6 149 rfl rfl
theorem ww_X12_invert : WW mi_X12_invert 109 3 := ⟨v1434, v1431, v92, v1432, v1433, ⟨by decide, by decide, by decide +kernel⟩, by decide⟩
set_option synthInstance.maxSize 4096 in
set_option synthInstance.maxHeartbeats 400000 in
set_option maxRecDepth 100000 in
theorem dec_887 : caseD 887 3 106 109 500 := by unfold caseD argD; decide +kernel
set_option maxRecDepth 100000 in
theorem v866 : (Jvm.Cond.code ({ cls := "HalfOrders", name := "bound", desc := "(IIII)I" } : Jvm.MethodName) prog_1_method_25_code (6 : Nat) (Option.some Jvm.ClassFile.FieldType.int)) ∈ mw_tbl := mwt_4 62 rfl rfl
set_option maxRecDepth 100000 in
theorem v863 : (Jvm.Cond.methodLink "HalfOrdersLaw" (110 : Nat) ({ cls := "HalfOrders", name := "bound", desc := "(IIII)I" } : Jvm.MethodName)) ∈ mw_tbl := mwt_4 59 rfl rfl
set_option maxRecDepth 100000 in
theorem v864 : (Jvm.Cond.instanceMethod ({ cls := "HalfOrders", name := "bound", desc := "(IIII)I" } : Jvm.MethodName)) ∈ mw_tbl := mwt_4 60 rfl rfl
set_option maxRecDepth 100000 in
theorem v865 : (Jvm.Cond.selects "HalfOrders" ({ cls := "HalfOrders", name := "bound", desc := "(IIII)I" } : Jvm.MethodName) ({ cls := "HalfOrders", name := "bound", desc := "(IIII)I" } : Jvm.MethodName)) ∈ mw_tbl := mwt_4 61 rfl rfl
theorem ww_X11_bound : WW mi_X11_bound 110 4 := ⟨v866, v863, v85, v864, v865, ⟨by decide, by decide, by decide +kernel⟩, by decide⟩
set_option maxRecDepth 100000 in
theorem v1402 : (Jvm.Cond.code ({ cls := "HalfOrdersModel", name := "bound", desc := "(IIII)I" } : Jvm.MethodName) prog_14_method_54_code (5 : Nat) (Option.some Jvm.ClassFile.FieldType.int)) ∈ mw_tbl := mwt_6 118 rfl rfl
set_option maxRecDepth 100000 in
theorem v1399 : (Jvm.Cond.methodLink "HalfOrdersLaw" (114 : Nat) ({ cls := "HalfOrdersModel", name := "bound", desc := "(IIII)I" } : Jvm.MethodName)) ∈ mw_tbl := mwt_6 115 rfl rfl
set_option maxRecDepth 100000 in
theorem v1400 : (Jvm.Cond.instanceMethod ({ cls := "HalfOrdersModel", name := "bound", desc := "(IIII)I" } : Jvm.MethodName)) ∈ mw_tbl := mwt_6 116 rfl rfl
set_option maxRecDepth 100000 in
theorem v1401 : (Jvm.Cond.selects "HalfOrdersModel" ({ cls := "HalfOrdersModel", name := "bound", desc := "(IIII)I" } : Jvm.MethodName) ({ cls := "HalfOrdersModel", name := "bound", desc := "(IIII)I" } : Jvm.MethodName)) ∈ mw_tbl := mwt_6 117 rfl rfl
theorem ww_X12_bound : WW mi_X12_bound 114 4 := ⟨v1402, v1399, v92, v1400, v1401, ⟨by decide, by decide, by decide +kernel⟩, by decide⟩
set_option synthInstance.maxSize 4096 in
set_option synthInstance.maxHeartbeats 400000 in
set_option maxRecDepth 100000 in
theorem dec_930 : caseD 930 4 110 114 447 := by unfold caseD argD; decide +kernel
set_option maxRecDepth 100000 in
theorem v872 : (Jvm.Cond.code ({ cls := "HalfOrders", name := "uneven", desc := "(I)I" } : Jvm.MethodName) prog_1_method_26_code (3 : Nat) (Option.some Jvm.ClassFile.FieldType.int)) ∈ mw_tbl := mwt_4 68 rfl rfl
set_option maxRecDepth 100000 in
theorem v869 : (Jvm.Cond.methodLink "HalfOrdersLaw" (115 : Nat) ({ cls := "HalfOrders", name := "uneven", desc := "(I)I" } : Jvm.MethodName)) ∈ mw_tbl := mwt_4 65 rfl rfl
set_option maxRecDepth 100000 in
theorem v870 : (Jvm.Cond.instanceMethod ({ cls := "HalfOrders", name := "uneven", desc := "(I)I" } : Jvm.MethodName)) ∈ mw_tbl := mwt_4 66 rfl rfl
set_option maxRecDepth 100000 in
theorem v871 : (Jvm.Cond.selects "HalfOrders" ({ cls := "HalfOrders", name := "uneven", desc := "(I)I" } : Jvm.MethodName) ({ cls := "HalfOrders", name := "uneven", desc := "(I)I" } : Jvm.MethodName)) ∈ mw_tbl := mwt_4 67 rfl rfl
theorem ww_X11_uneven : WW mi_X11_uneven 115 1 := ⟨v872, v869, v85, v870, v871, ⟨by decide, by decide, by decide +kernel⟩, by decide⟩
set_option maxRecDepth 100000 in
theorem v1414 : (Jvm.Cond.code ({ cls := "HalfOrdersModel", name := "uneven", desc := "(I)I" } : Jvm.MethodName) prog_14_method_57_code (2 : Nat) (Option.some Jvm.ClassFile.FieldType.int)) ∈ mw_tbl := mwt_6 130 rfl rfl
set_option maxRecDepth 100000 in
theorem v1411 : (Jvm.Cond.methodLink "HalfOrdersLaw" (118 : Nat) ({ cls := "HalfOrdersModel", name := "uneven", desc := "(I)I" } : Jvm.MethodName)) ∈ mw_tbl := mwt_6 127 rfl rfl
set_option maxRecDepth 100000 in
theorem v1412 : (Jvm.Cond.instanceMethod ({ cls := "HalfOrdersModel", name := "uneven", desc := "(I)I" } : Jvm.MethodName)) ∈ mw_tbl := mwt_6 128 rfl rfl
set_option maxRecDepth 100000 in
theorem v1413 : (Jvm.Cond.selects "HalfOrdersModel" ({ cls := "HalfOrdersModel", name := "uneven", desc := "(I)I" } : Jvm.MethodName) ({ cls := "HalfOrdersModel", name := "uneven", desc := "(I)I" } : Jvm.MethodName)) ∈ mw_tbl := mwt_6 129 rfl rfl
theorem ww_X12_uneven : WW mi_X12_uneven 118 1 := ⟨v1414, v1411, v92, v1412, v1413, ⟨by decide, by decide, by decide +kernel⟩, by decide⟩
set_option synthInstance.maxSize 4096 in
set_option synthInstance.maxHeartbeats 400000 in
set_option maxRecDepth 100000 in
theorem dec_983 : caseD 983 1 115 118 424 := by unfold caseD argD; decide +kernel
set_option maxRecDepth 100000 in
theorem v876 : (Jvm.Cond.code ({ cls := "HalfOrders", name := "bent", desc := "(I)I" } : Jvm.MethodName) prog_1_method_27_code (3 : Nat) (Option.some Jvm.ClassFile.FieldType.int)) ∈ mw_tbl := mwt_4 72 rfl rfl
set_option maxRecDepth 100000 in
theorem v873 : (Jvm.Cond.methodLink "HalfOrdersLaw" (119 : Nat) ({ cls := "HalfOrders", name := "bent", desc := "(I)I" } : Jvm.MethodName)) ∈ mw_tbl := mwt_4 69 rfl rfl
set_option maxRecDepth 100000 in
theorem v874 : (Jvm.Cond.instanceMethod ({ cls := "HalfOrders", name := "bent", desc := "(I)I" } : Jvm.MethodName)) ∈ mw_tbl := mwt_4 70 rfl rfl
set_option maxRecDepth 100000 in
theorem v875 : (Jvm.Cond.selects "HalfOrders" ({ cls := "HalfOrders", name := "bent", desc := "(I)I" } : Jvm.MethodName) ({ cls := "HalfOrders", name := "bent", desc := "(I)I" } : Jvm.MethodName)) ∈ mw_tbl := mwt_4 71 rfl rfl
theorem ww_X11_bent : WW mi_X11_bent 119 1 := ⟨v876, v873, v85, v874, v875, ⟨by decide, by decide, by decide +kernel⟩, by decide⟩
set_option maxRecDepth 100000 in
theorem v1426 : (Jvm.Cond.code ({ cls := "HalfOrdersModel", name := "bent", desc := "(I)I" } : Jvm.MethodName) prog_14_method_59_code (8 : Nat) (Option.some Jvm.ClassFile.FieldType.int)) ∈ mw_tbl := mwt_6 142 rfl rfl
set_option maxRecDepth 100000 in
theorem v1423 : (Jvm.Cond.methodLink "HalfOrdersLaw" (122 : Nat) ({ cls := "HalfOrdersModel", name := "bent", desc := "(I)I" } : Jvm.MethodName)) ∈ mw_tbl := mwt_6 139 rfl rfl
set_option maxRecDepth 100000 in
theorem v1424 : (Jvm.Cond.instanceMethod ({ cls := "HalfOrdersModel", name := "bent", desc := "(I)I" } : Jvm.MethodName)) ∈ mw_tbl := mwt_6 140 rfl rfl
set_option maxRecDepth 100000 in
theorem v1425 : (Jvm.Cond.selects "HalfOrdersModel" ({ cls := "HalfOrdersModel", name := "bent", desc := "(I)I" } : Jvm.MethodName) ({ cls := "HalfOrdersModel", name := "bent", desc := "(I)I" } : Jvm.MethodName)) ∈ mw_tbl := mwt_6 141 rfl rfl
theorem ww_X12_bent : WW mi_X12_bent 122 1 := ⟨v1426, v1423, v92, v1424, v1425, ⟨by decide, by decide, by decide +kernel⟩, by decide⟩
set_option synthInstance.maxSize 4096 in
set_option synthInstance.maxHeartbeats 400000 in
set_option maxRecDepth 100000 in
theorem dec_1006 : caseD 1006 1 119 122 401 := by unfold caseD argD; decide +kernel
set_option maxRecDepth 100000 in
theorem v880 : (Jvm.Cond.code ({ cls := "HalfOrders", name := "same", desc := "(III)I" } : Jvm.MethodName) prog_1_method_28_code (6 : Nat) (Option.some Jvm.ClassFile.FieldType.int)) ∈ mw_tbl := mwt_4 76 rfl rfl
set_option maxRecDepth 100000 in
theorem v877 : (Jvm.Cond.methodLink "HalfOrdersLaw" (123 : Nat) ({ cls := "HalfOrders", name := "same", desc := "(III)I" } : Jvm.MethodName)) ∈ mw_tbl := mwt_4 73 rfl rfl
set_option maxRecDepth 100000 in
theorem v878 : (Jvm.Cond.instanceMethod ({ cls := "HalfOrders", name := "same", desc := "(III)I" } : Jvm.MethodName)) ∈ mw_tbl := mwt_4 74 rfl rfl
set_option maxRecDepth 100000 in
theorem v879 : (Jvm.Cond.selects "HalfOrders" ({ cls := "HalfOrders", name := "same", desc := "(III)I" } : Jvm.MethodName) ({ cls := "HalfOrders", name := "same", desc := "(III)I" } : Jvm.MethodName)) ∈ mw_tbl := mwt_4 75 rfl rfl
theorem ww_X11_same : WW mi_X11_same 123 3 := ⟨v880, v877, v85, v878, v879, ⟨by decide, by decide, by decide +kernel⟩, by decide⟩
set_option maxRecDepth 100000 in
theorem v1439 : (Jvm.Cond.code ({ cls := "HalfOrdersModel", name := "same", desc := "(III)I" } : Jvm.MethodName) prog_14_method_64_code (7 : Nat) (Option.some Jvm.ClassFile.FieldType.int)) ∈ mw_tbl := mwt_6 155 rfl rfl
set_option maxRecDepth 100000 in
theorem v1436 : (Jvm.Cond.methodLink "HalfOrdersLaw" (126 : Nat) ({ cls := "HalfOrdersModel", name := "same", desc := "(III)I" } : Jvm.MethodName)) ∈ mw_tbl := mwt_6 152 rfl rfl
set_option maxRecDepth 100000 in
theorem v1437 : (Jvm.Cond.instanceMethod ({ cls := "HalfOrdersModel", name := "same", desc := "(III)I" } : Jvm.MethodName)) ∈ mw_tbl := mwt_6 153 rfl rfl
set_option maxRecDepth 100000 in
theorem v1438 : (Jvm.Cond.selects "HalfOrdersModel" ({ cls := "HalfOrdersModel", name := "same", desc := "(III)I" } : Jvm.MethodName) ({ cls := "HalfOrdersModel", name := "same", desc := "(III)I" } : Jvm.MethodName)) ∈ mw_tbl := mwt_6 154 rfl rfl
theorem ww_X12_same : WW mi_X12_same 126 3 := ⟨v1439, v1436, v92, v1437, v1438, ⟨by decide, by decide, by decide +kernel⟩, by decide⟩
set_option synthInstance.maxSize 4096 in
set_option synthInstance.maxHeartbeats 400000 in
set_option maxRecDepth 100000 in
theorem dec_1029 : caseD 1029 3 123 126 358 := by unfold caseD argD; decide +kernel
set_option maxRecDepth 100000 in
theorem v908 : (Jvm.Cond.code ({ cls := "HalfOrders", name := "lay", desc := "(II)I" } : Jvm.MethodName) prog_1_method_29_code (4 : Nat) (Option.some Jvm.ClassFile.FieldType.int)) ∈ mw_tbl := mwt_4 104 rfl rfl
set_option maxRecDepth 100000 in
theorem v905 : (Jvm.Cond.methodLink "HalfOrdersLaw" (127 : Nat) ({ cls := "HalfOrders", name := "lay", desc := "(II)I" } : Jvm.MethodName)) ∈ mw_tbl := mwt_4 101 rfl rfl
set_option maxRecDepth 100000 in
theorem v906 : (Jvm.Cond.instanceMethod ({ cls := "HalfOrders", name := "lay", desc := "(II)I" } : Jvm.MethodName)) ∈ mw_tbl := mwt_4 102 rfl rfl
set_option maxRecDepth 100000 in
theorem v907 : (Jvm.Cond.selects "HalfOrders" ({ cls := "HalfOrders", name := "lay", desc := "(II)I" } : Jvm.MethodName) ({ cls := "HalfOrders", name := "lay", desc := "(II)I" } : Jvm.MethodName)) ∈ mw_tbl := mwt_4 103 rfl rfl
theorem ww_X11_lay : WW mi_X11_lay 127 2 := ⟨v908, v905, v85, v906, v907, ⟨by decide, by decide, by decide +kernel⟩, by decide⟩
set_option maxRecDepth 100000 in
theorem v1492 : (Jvm.Cond.code ({ cls := "HalfOrdersModel", name := "lay", desc := "(II)I" } : Jvm.MethodName) prog_14_method_72_code (5 : Nat) (Option.some Jvm.ClassFile.FieldType.int)) ∈ mw_tbl := mwt_6 208 rfl rfl
set_option maxRecDepth 100000 in
theorem v1489 : (Jvm.Cond.methodLink "HalfOrdersLaw" (130 : Nat) ({ cls := "HalfOrdersModel", name := "lay", desc := "(II)I" } : Jvm.MethodName)) ∈ mw_tbl := mwt_6 205 rfl rfl
set_option maxRecDepth 100000 in
theorem v1490 : (Jvm.Cond.instanceMethod ({ cls := "HalfOrdersModel", name := "lay", desc := "(II)I" } : Jvm.MethodName)) ∈ mw_tbl := mwt_6 206 rfl rfl
set_option maxRecDepth 100000 in
theorem v1491 : (Jvm.Cond.selects "HalfOrdersModel" ({ cls := "HalfOrdersModel", name := "lay", desc := "(II)I" } : Jvm.MethodName) ({ cls := "HalfOrdersModel", name := "lay", desc := "(II)I" } : Jvm.MethodName)) ∈ mw_tbl := mwt_6 207 rfl rfl
theorem ww_X12_lay : WW mi_X12_lay 130 2 := ⟨v1492, v1489, v92, v1490, v1491, ⟨by decide, by decide, by decide +kernel⟩, by decide⟩
set_option synthInstance.maxSize 4096 in
set_option synthInstance.maxHeartbeats 400000 in
set_option maxRecDepth 100000 in
theorem dec_1072 : caseD 1072 2 127 130 325 := by unfold caseD argD; decide +kernel
set_option maxRecDepth 100000 in
theorem v917 : (Jvm.Cond.code ({ cls := "HalfOrders", name := "clear", desc := "()I" } : Jvm.MethodName) prog_1_method_30_code (2 : Nat) (Option.some Jvm.ClassFile.FieldType.int)) ∈ mw_tbl := mwt_4 113 rfl rfl
set_option maxRecDepth 100000 in
theorem v914 : (Jvm.Cond.methodLink "HalfOrdersLaw" (131 : Nat) ({ cls := "HalfOrders", name := "clear", desc := "()I" } : Jvm.MethodName)) ∈ mw_tbl := mwt_4 110 rfl rfl
set_option maxRecDepth 100000 in
theorem v915 : (Jvm.Cond.instanceMethod ({ cls := "HalfOrders", name := "clear", desc := "()I" } : Jvm.MethodName)) ∈ mw_tbl := mwt_4 111 rfl rfl
set_option maxRecDepth 100000 in
theorem v916 : (Jvm.Cond.selects "HalfOrders" ({ cls := "HalfOrders", name := "clear", desc := "()I" } : Jvm.MethodName) ({ cls := "HalfOrders", name := "clear", desc := "()I" } : Jvm.MethodName)) ∈ mw_tbl := mwt_4 112 rfl rfl
theorem ww_X11_clear : WW mi_X11_clear 131 0 := ⟨v917, v914, v85, v915, v916, ⟨by decide, by decide, by decide +kernel⟩, by decide⟩
set_option maxRecDepth 100000 in
theorem v1496 : (Jvm.Cond.code ({ cls := "HalfOrdersModel", name := "clear", desc := "()I" } : Jvm.MethodName) prog_14_method_73_code (2 : Nat) (Option.some Jvm.ClassFile.FieldType.int)) ∈ mw_tbl := mwt_6 212 rfl rfl
set_option maxRecDepth 100000 in
theorem v1493 : (Jvm.Cond.methodLink "HalfOrdersLaw" (134 : Nat) ({ cls := "HalfOrdersModel", name := "clear", desc := "()I" } : Jvm.MethodName)) ∈ mw_tbl := mwt_6 209 rfl rfl
set_option maxRecDepth 100000 in
theorem v1494 : (Jvm.Cond.instanceMethod ({ cls := "HalfOrdersModel", name := "clear", desc := "()I" } : Jvm.MethodName)) ∈ mw_tbl := mwt_6 210 rfl rfl
set_option maxRecDepth 100000 in
theorem v1495 : (Jvm.Cond.selects "HalfOrdersModel" ({ cls := "HalfOrdersModel", name := "clear", desc := "()I" } : Jvm.MethodName) ({ cls := "HalfOrdersModel", name := "clear", desc := "()I" } : Jvm.MethodName)) ∈ mw_tbl := mwt_6 211 rfl rfl
theorem ww_X12_clear : WW mi_X12_clear 134 0 := ⟨v1496, v1493, v92, v1494, v1495, ⟨by decide, by decide, by decide +kernel⟩, by decide⟩
set_option synthInstance.maxSize 4096 in
set_option synthInstance.maxHeartbeats 400000 in
set_option maxRecDepth 100000 in
theorem dec_1105 : caseD 1105 0 131 134 312 := by unfold caseD argD; decide +kernel
set_option maxRecDepth 100000 in
theorem v921 : (Jvm.Cond.code ({ cls := "HalfOrders", name := "hand", desc := "(I)I" } : Jvm.MethodName) prog_1_method_31_code (3 : Nat) (Option.some Jvm.ClassFile.FieldType.int)) ∈ mw_tbl := mwt_4 117 rfl rfl
set_option maxRecDepth 100000 in
theorem v918 : (Jvm.Cond.methodLink "HalfOrdersLaw" (135 : Nat) ({ cls := "HalfOrders", name := "hand", desc := "(I)I" } : Jvm.MethodName)) ∈ mw_tbl := mwt_4 114 rfl rfl
set_option maxRecDepth 100000 in
theorem v919 : (Jvm.Cond.instanceMethod ({ cls := "HalfOrders", name := "hand", desc := "(I)I" } : Jvm.MethodName)) ∈ mw_tbl := mwt_4 115 rfl rfl
set_option maxRecDepth 100000 in
theorem v920 : (Jvm.Cond.selects "HalfOrders" ({ cls := "HalfOrders", name := "hand", desc := "(I)I" } : Jvm.MethodName) ({ cls := "HalfOrders", name := "hand", desc := "(I)I" } : Jvm.MethodName)) ∈ mw_tbl := mwt_4 116 rfl rfl
theorem ww_X11_hand : WW mi_X11_hand 135 1 := ⟨v921, v918, v85, v919, v920, ⟨by decide, by decide, by decide +kernel⟩, by decide⟩
set_option maxRecDepth 100000 in
theorem v1500 : (Jvm.Cond.code ({ cls := "HalfOrdersModel", name := "hand", desc := "(I)I" } : Jvm.MethodName) prog_14_method_77_code (4 : Nat) (Option.some Jvm.ClassFile.FieldType.int)) ∈ mw_tbl := mwt_6 216 rfl rfl
set_option maxRecDepth 100000 in
theorem v1497 : (Jvm.Cond.methodLink "HalfOrdersLaw" (138 : Nat) ({ cls := "HalfOrdersModel", name := "hand", desc := "(I)I" } : Jvm.MethodName)) ∈ mw_tbl := mwt_6 213 rfl rfl
set_option maxRecDepth 100000 in
theorem v1498 : (Jvm.Cond.instanceMethod ({ cls := "HalfOrdersModel", name := "hand", desc := "(I)I" } : Jvm.MethodName)) ∈ mw_tbl := mwt_6 214 rfl rfl
set_option maxRecDepth 100000 in
theorem v1499 : (Jvm.Cond.selects "HalfOrdersModel" ({ cls := "HalfOrdersModel", name := "hand", desc := "(I)I" } : Jvm.MethodName) ({ cls := "HalfOrdersModel", name := "hand", desc := "(I)I" } : Jvm.MethodName)) ∈ mw_tbl := mwt_6 215 rfl rfl
theorem ww_X12_hand : WW mi_X12_hand 138 1 := ⟨v1500, v1497, v92, v1498, v1499, ⟨by decide, by decide, by decide +kernel⟩, by decide⟩
set_option synthInstance.maxSize 4096 in
set_option synthInstance.maxHeartbeats 400000 in
set_option maxRecDepth 100000 in
theorem dec_1118 : caseD 1118 1 135 138 289 := by unfold caseD argD; decide +kernel
set_option maxRecDepth 100000 in
theorem v945 : (Jvm.Cond.code ({ cls := "HalfOrders", name := "unlike", desc := "(I)I" } : Jvm.MethodName) prog_1_method_32_code (6 : Nat) (Option.some Jvm.ClassFile.FieldType.int)) ∈ mw_tbl := mwt_4 141 rfl rfl
set_option maxRecDepth 100000 in
theorem v942 : (Jvm.Cond.methodLink "HalfOrdersLaw" (139 : Nat) ({ cls := "HalfOrders", name := "unlike", desc := "(I)I" } : Jvm.MethodName)) ∈ mw_tbl := mwt_4 138 rfl rfl
set_option maxRecDepth 100000 in
theorem v943 : (Jvm.Cond.instanceMethod ({ cls := "HalfOrders", name := "unlike", desc := "(I)I" } : Jvm.MethodName)) ∈ mw_tbl := mwt_4 139 rfl rfl
set_option maxRecDepth 100000 in
theorem v944 : (Jvm.Cond.selects "HalfOrders" ({ cls := "HalfOrders", name := "unlike", desc := "(I)I" } : Jvm.MethodName) ({ cls := "HalfOrders", name := "unlike", desc := "(I)I" } : Jvm.MethodName)) ∈ mw_tbl := mwt_4 140 rfl rfl
theorem ww_X11_unlike : WW mi_X11_unlike 139 1 := ⟨v945, v942, v85, v943, v944, ⟨by decide, by decide, by decide +kernel⟩, by decide⟩
set_option maxRecDepth 100000 in
theorem v1516 : (Jvm.Cond.code ({ cls := "HalfOrdersModel", name := "unlike", desc := "(I)I" } : Jvm.MethodName) prog_14_method_79_code (5 : Nat) (Option.some Jvm.ClassFile.FieldType.int)) ∈ mw_tbl := mwt_6 232 rfl rfl
set_option maxRecDepth 100000 in
theorem v1513 : (Jvm.Cond.methodLink "HalfOrdersLaw" (142 : Nat) ({ cls := "HalfOrdersModel", name := "unlike", desc := "(I)I" } : Jvm.MethodName)) ∈ mw_tbl := mwt_6 229 rfl rfl
set_option maxRecDepth 100000 in
theorem v1514 : (Jvm.Cond.instanceMethod ({ cls := "HalfOrdersModel", name := "unlike", desc := "(I)I" } : Jvm.MethodName)) ∈ mw_tbl := mwt_6 230 rfl rfl
set_option maxRecDepth 100000 in
theorem v1515 : (Jvm.Cond.selects "HalfOrdersModel" ({ cls := "HalfOrdersModel", name := "unlike", desc := "(I)I" } : Jvm.MethodName) ({ cls := "HalfOrdersModel", name := "unlike", desc := "(I)I" } : Jvm.MethodName)) ∈ mw_tbl := mwt_6 231 rfl rfl
theorem ww_X12_unlike : WW mi_X12_unlike 142 1 := ⟨v1516, v1513, v92, v1514, v1515, ⟨by decide, by decide, by decide +kernel⟩, by decide⟩
set_option synthInstance.maxSize 4096 in
set_option synthInstance.maxHeartbeats 400000 in
set_option maxRecDepth 100000 in
theorem dec_1141 : caseD 1141 1 139 142 266 := by unfold caseD argD; decide +kernel
set_option maxRecDepth 100000 in
theorem v950 : (Jvm.Cond.code ({ cls := "HalfOrders", name := "act", desc := "(III)I" } : Jvm.MethodName) prog_1_method_33_code (5 : Nat) (Option.some Jvm.ClassFile.FieldType.int)) ∈ mw_tbl := mwt_4 146 rfl rfl
set_option maxRecDepth 100000 in
theorem v947 : (Jvm.Cond.methodLink "HalfOrdersLaw" (143 : Nat) ({ cls := "HalfOrders", name := "act", desc := "(III)I" } : Jvm.MethodName)) ∈ mw_tbl := mwt_4 143 rfl rfl
set_option maxRecDepth 100000 in
theorem v948 : (Jvm.Cond.instanceMethod ({ cls := "HalfOrders", name := "act", desc := "(III)I" } : Jvm.MethodName)) ∈ mw_tbl := mwt_4 144 rfl rfl
set_option maxRecDepth 100000 in
theorem v949 : (Jvm.Cond.selects "HalfOrders" ({ cls := "HalfOrders", name := "act", desc := "(III)I" } : Jvm.MethodName) ({ cls := "HalfOrders", name := "act", desc := "(III)I" } : Jvm.MethodName)) ∈ mw_tbl := mwt_4 145 rfl rfl
theorem ww_X11_act : WW mi_X11_act 143 3 := ⟨v950, v947, v85, v948, v949, ⟨by decide, by decide, by decide +kernel⟩, by decide⟩
set_option maxRecDepth 100000 in
theorem v1524 : (Jvm.Cond.code ({ cls := "HalfOrdersModel", name := "act", desc := "(III)I" } : Jvm.MethodName) prog_14_method_88_code (4 : Nat) (Option.some Jvm.ClassFile.FieldType.int)) ∈ mw_tbl := mwt_7 0 rfl rfl
set_option maxRecDepth 100000 in
theorem v1521 : (Jvm.Cond.methodLink "HalfOrdersLaw" (146 : Nat) ({ cls := "HalfOrdersModel", name := "act", desc := "(III)I" } : Jvm.MethodName)) ∈ mw_tbl := mwt_6 237 rfl rfl
set_option maxRecDepth 100000 in
theorem v1522 : (Jvm.Cond.instanceMethod ({ cls := "HalfOrdersModel", name := "act", desc := "(III)I" } : Jvm.MethodName)) ∈ mw_tbl := mwt_6 238 rfl rfl
set_option maxRecDepth 100000 in
theorem v1523 : (Jvm.Cond.selects "HalfOrdersModel" ({ cls := "HalfOrdersModel", name := "act", desc := "(III)I" } : Jvm.MethodName) ({ cls := "HalfOrdersModel", name := "act", desc := "(III)I" } : Jvm.MethodName)) ∈ mw_tbl := mwt_6 239 rfl rfl
theorem ww_X12_act : WW mi_X12_act 146 3 := ⟨v1524, v1521, v92, v1522, v1523, ⟨by decide, by decide, by decide +kernel⟩, by decide⟩
set_option synthInstance.maxSize 4096 in
set_option synthInstance.maxHeartbeats 400000 in
set_option maxRecDepth 100000 in
theorem dec_1164 : caseD 1164 3 143 146 223 := by unfold caseD argD; decide +kernel
set_option maxRecDepth 100000 in
theorem v1040 : (Jvm.Cond.code ({ cls := "HalfOrders", name := "trace", desc := "(I)I" } : Jvm.MethodName) prog_1_method_34_code (2 : Nat) (Option.some Jvm.ClassFile.FieldType.int)) ∈ mw_tbl := mwt_4 236 rfl rfl
set_option maxRecDepth 100000 in
theorem v1037 : (Jvm.Cond.methodLink "HalfOrdersLaw" (147 : Nat) ({ cls := "HalfOrders", name := "trace", desc := "(I)I" } : Jvm.MethodName)) ∈ mw_tbl := mwt_4 233 rfl rfl
set_option maxRecDepth 100000 in
theorem v1038 : (Jvm.Cond.instanceMethod ({ cls := "HalfOrders", name := "trace", desc := "(I)I" } : Jvm.MethodName)) ∈ mw_tbl := mwt_4 234 rfl rfl
set_option maxRecDepth 100000 in
theorem v1039 : (Jvm.Cond.selects "HalfOrders" ({ cls := "HalfOrders", name := "trace", desc := "(I)I" } : Jvm.MethodName) ({ cls := "HalfOrders", name := "trace", desc := "(I)I" } : Jvm.MethodName)) ∈ mw_tbl := mwt_4 235 rfl rfl
theorem ww_X11_trace : WW mi_X11_trace 147 1 := ⟨v1040, v1037, v85, v1038, v1039, ⟨by decide, by decide, by decide +kernel⟩, by decide⟩
set_option maxRecDepth 100000 in
theorem v1560 : (Jvm.Cond.code ({ cls := "HalfOrdersModel", name := "trace", desc := "(I)I" } : Jvm.MethodName) prog_14_method_89_code (2 : Nat) (Option.some Jvm.ClassFile.FieldType.int)) ∈ mw_tbl := mwt_7 36 rfl rfl
set_option maxRecDepth 100000 in
theorem v1557 : (Jvm.Cond.methodLink "HalfOrdersLaw" (150 : Nat) ({ cls := "HalfOrdersModel", name := "trace", desc := "(I)I" } : Jvm.MethodName)) ∈ mw_tbl := mwt_7 33 rfl rfl
set_option maxRecDepth 100000 in
theorem v1558 : (Jvm.Cond.instanceMethod ({ cls := "HalfOrdersModel", name := "trace", desc := "(I)I" } : Jvm.MethodName)) ∈ mw_tbl := mwt_7 34 rfl rfl
set_option maxRecDepth 100000 in
theorem v1559 : (Jvm.Cond.selects "HalfOrdersModel" ({ cls := "HalfOrdersModel", name := "trace", desc := "(I)I" } : Jvm.MethodName) ({ cls := "HalfOrdersModel", name := "trace", desc := "(I)I" } : Jvm.MethodName)) ∈ mw_tbl := mwt_7 35 rfl rfl
theorem ww_X12_trace : WW mi_X12_trace 150 1 := ⟨v1560, v1557, v92, v1558, v1559, ⟨by decide, by decide, by decide +kernel⟩, by decide⟩
set_option synthInstance.maxSize 4096 in
set_option synthInstance.maxHeartbeats 400000 in
set_option maxRecDepth 100000 in
theorem dec_1207 : caseD 1207 1 147 150 200 := by unfold caseD argD; decide +kernel
set_option maxRecDepth 100000 in
theorem v1044 : (Jvm.Cond.code ({ cls := "HalfOrders", name := "sheet", desc := "(III)I" } : Jvm.MethodName) prog_1_method_35_code (5 : Nat) (Option.some Jvm.ClassFile.FieldType.int)) ∈ mw_tbl := mwt_5 0 rfl rfl
set_option maxRecDepth 100000 in
theorem v1041 : (Jvm.Cond.methodLink "HalfOrdersLaw" (151 : Nat) ({ cls := "HalfOrders", name := "sheet", desc := "(III)I" } : Jvm.MethodName)) ∈ mw_tbl := mwt_4 237 rfl rfl
set_option maxRecDepth 100000 in
theorem v1042 : (Jvm.Cond.instanceMethod ({ cls := "HalfOrders", name := "sheet", desc := "(III)I" } : Jvm.MethodName)) ∈ mw_tbl := mwt_4 238 rfl rfl
set_option maxRecDepth 100000 in
theorem v1043 : (Jvm.Cond.selects "HalfOrders" ({ cls := "HalfOrders", name := "sheet", desc := "(III)I" } : Jvm.MethodName) ({ cls := "HalfOrders", name := "sheet", desc := "(III)I" } : Jvm.MethodName)) ∈ mw_tbl := mwt_4 239 rfl rfl
theorem ww_X11_sheet : WW mi_X11_sheet 151 3 := ⟨v1044, v1041, v85, v1042, v1043, ⟨by decide, by decide, by decide +kernel⟩, by decide⟩
set_option maxRecDepth 100000 in
theorem v1564 : (Jvm.Cond.code ({ cls := "HalfOrdersModel", name := "sheet", desc := "(III)I" } : Jvm.MethodName) prog_14_method_90_code (5 : Nat) (Option.some Jvm.ClassFile.FieldType.int)) ∈ mw_tbl := mwt_7 40 rfl rfl
set_option maxRecDepth 100000 in
theorem v1561 : (Jvm.Cond.methodLink "HalfOrdersLaw" (154 : Nat) ({ cls := "HalfOrdersModel", name := "sheet", desc := "(III)I" } : Jvm.MethodName)) ∈ mw_tbl := mwt_7 37 rfl rfl
set_option maxRecDepth 100000 in
theorem v1562 : (Jvm.Cond.instanceMethod ({ cls := "HalfOrdersModel", name := "sheet", desc := "(III)I" } : Jvm.MethodName)) ∈ mw_tbl := mwt_7 38 rfl rfl
set_option maxRecDepth 100000 in
theorem v1563 : (Jvm.Cond.selects "HalfOrdersModel" ({ cls := "HalfOrdersModel", name := "sheet", desc := "(III)I" } : Jvm.MethodName) ({ cls := "HalfOrdersModel", name := "sheet", desc := "(III)I" } : Jvm.MethodName)) ∈ mw_tbl := mwt_7 39 rfl rfl
theorem ww_X12_sheet : WW mi_X12_sheet 154 3 := ⟨v1564, v1561, v92, v1562, v1563, ⟨by decide, by decide, by decide +kernel⟩, by decide⟩
set_option synthInstance.maxSize 4096 in
set_option synthInstance.maxHeartbeats 400000 in
set_option maxRecDepth 100000 in
theorem dec_1230 : caseD 1230 3 151 154 157 := by unfold caseD argD; decide +kernel
set_option maxRecDepth 100000 in
theorem v1058 : (Jvm.Cond.code ({ cls := "HalfOrders", name := "cell", desc := "(III)I" } : Jvm.MethodName) prog_1_method_36_code (5 : Nat) (Option.some Jvm.ClassFile.FieldType.int)) ∈ mw_tbl := mwt_5 14 rfl rfl
set_option maxRecDepth 100000 in
theorem v1055 : (Jvm.Cond.methodLink "HalfOrdersLaw" (155 : Nat) ({ cls := "HalfOrders", name := "cell", desc := "(III)I" } : Jvm.MethodName)) ∈ mw_tbl := mwt_5 11 rfl rfl
set_option maxRecDepth 100000 in
theorem v1056 : (Jvm.Cond.instanceMethod ({ cls := "HalfOrders", name := "cell", desc := "(III)I" } : Jvm.MethodName)) ∈ mw_tbl := mwt_5 12 rfl rfl
set_option maxRecDepth 100000 in
theorem v1057 : (Jvm.Cond.selects "HalfOrders" ({ cls := "HalfOrders", name := "cell", desc := "(III)I" } : Jvm.MethodName) ({ cls := "HalfOrders", name := "cell", desc := "(III)I" } : Jvm.MethodName)) ∈ mw_tbl := mwt_5 13 rfl rfl
theorem ww_X11_cell : WW mi_X11_cell 155 3 := ⟨v1058, v1055, v85, v1056, v1057, ⟨by decide, by decide, by decide +kernel⟩, by decide⟩
set_option maxRecDepth 100000 in
theorem v1568 : (Jvm.Cond.code ({ cls := "HalfOrdersModel", name := "cell", desc := "(III)I" } : Jvm.MethodName) prog_14_method_91_code (4 : Nat) (Option.some Jvm.ClassFile.FieldType.int)) ∈ mw_tbl := mwt_7 44 rfl rfl
set_option maxRecDepth 100000 in
theorem v1565 : (Jvm.Cond.methodLink "HalfOrdersLaw" (158 : Nat) ({ cls := "HalfOrdersModel", name := "cell", desc := "(III)I" } : Jvm.MethodName)) ∈ mw_tbl := mwt_7 41 rfl rfl
set_option maxRecDepth 100000 in
theorem v1566 : (Jvm.Cond.instanceMethod ({ cls := "HalfOrdersModel", name := "cell", desc := "(III)I" } : Jvm.MethodName)) ∈ mw_tbl := mwt_7 42 rfl rfl
set_option maxRecDepth 100000 in
theorem v1567 : (Jvm.Cond.selects "HalfOrdersModel" ({ cls := "HalfOrdersModel", name := "cell", desc := "(III)I" } : Jvm.MethodName) ({ cls := "HalfOrdersModel", name := "cell", desc := "(III)I" } : Jvm.MethodName)) ∈ mw_tbl := mwt_7 43 rfl rfl
theorem ww_X12_cell : WW mi_X12_cell 158 3 := ⟨v1568, v1565, v92, v1566, v1567, ⟨by decide, by decide, by decide +kernel⟩, by decide⟩
set_option synthInstance.maxSize 4096 in
set_option synthInstance.maxHeartbeats 400000 in
set_option maxRecDepth 100000 in
theorem dec_1273 : caseD 1273 3 155 158 114 := by unfold caseD argD; decide +kernel
set_option maxRecDepth 100000 in
theorem v1070 : (Jvm.Cond.code ({ cls := "HalfOrders", name := "pairs", desc := "(IIII)I" } : Jvm.MethodName) prog_1_method_37_code (8 : Nat) (Option.some Jvm.ClassFile.FieldType.int)) ∈ mw_tbl := mwt_5 26 rfl rfl
set_option maxRecDepth 100000 in
theorem v1067 : (Jvm.Cond.methodLink "HalfOrdersLaw" (159 : Nat) ({ cls := "HalfOrders", name := "pairs", desc := "(IIII)I" } : Jvm.MethodName)) ∈ mw_tbl := mwt_5 23 rfl rfl
set_option maxRecDepth 100000 in
theorem v1068 : (Jvm.Cond.instanceMethod ({ cls := "HalfOrders", name := "pairs", desc := "(IIII)I" } : Jvm.MethodName)) ∈ mw_tbl := mwt_5 24 rfl rfl
set_option maxRecDepth 100000 in
theorem v1069 : (Jvm.Cond.selects "HalfOrders" ({ cls := "HalfOrders", name := "pairs", desc := "(IIII)I" } : Jvm.MethodName) ({ cls := "HalfOrders", name := "pairs", desc := "(IIII)I" } : Jvm.MethodName)) ∈ mw_tbl := mwt_5 25 rfl rfl
theorem ww_X11_pairs : WW mi_X11_pairs 159 4 := ⟨v1070, v1067, v85, v1068, v1069, ⟨by decide, by decide, by decide +kernel⟩, by decide⟩
set_option maxRecDepth 100000 in
theorem v1572 : (Jvm.Cond.code ({ cls := "HalfOrdersModel", name := "pairs", desc := "(IIII)I" } : Jvm.MethodName) prog_14_method_92_code (6 : Nat) (Option.some Jvm.ClassFile.FieldType.int)) ∈ mw_tbl := mwt_7 48 rfl rfl
set_option maxRecDepth 100000 in
theorem v1569 : (Jvm.Cond.methodLink "HalfOrdersLaw" (162 : Nat) ({ cls := "HalfOrdersModel", name := "pairs", desc := "(IIII)I" } : Jvm.MethodName)) ∈ mw_tbl := mwt_7 45 rfl rfl
set_option maxRecDepth 100000 in
theorem v1570 : (Jvm.Cond.instanceMethod ({ cls := "HalfOrdersModel", name := "pairs", desc := "(IIII)I" } : Jvm.MethodName)) ∈ mw_tbl := mwt_7 46 rfl rfl
set_option maxRecDepth 100000 in
theorem v1571 : (Jvm.Cond.selects "HalfOrdersModel" ({ cls := "HalfOrdersModel", name := "pairs", desc := "(IIII)I" } : Jvm.MethodName) ({ cls := "HalfOrdersModel", name := "pairs", desc := "(IIII)I" } : Jvm.MethodName)) ∈ mw_tbl := mwt_7 47 rfl rfl
theorem ww_X12_pairs : WW mi_X12_pairs 162 4 := ⟨v1572, v1569, v92, v1570, v1571, ⟨by decide, by decide, by decide +kernel⟩, by decide⟩
set_option synthInstance.maxSize 4096 in
set_option synthInstance.maxHeartbeats 400000 in
set_option maxRecDepth 100000 in
theorem dec_1316 : caseD 1316 4 159 162 61 := by unfold caseD argD; decide +kernel
set_option maxRecDepth 100000 in
theorem v1087 : (Jvm.Cond.code ({ cls := "HalfOrders", name := "forge", desc := "(III)I" } : Jvm.MethodName) prog_1_method_38_code (4 : Nat) (Option.some Jvm.ClassFile.FieldType.int)) ∈ mw_tbl := mwt_5 43 rfl rfl
set_option maxRecDepth 100000 in
theorem v1084 : (Jvm.Cond.methodLink "HalfOrdersLaw" (163 : Nat) ({ cls := "HalfOrders", name := "forge", desc := "(III)I" } : Jvm.MethodName)) ∈ mw_tbl := mwt_5 40 rfl rfl
set_option maxRecDepth 100000 in
theorem v1085 : (Jvm.Cond.instanceMethod ({ cls := "HalfOrders", name := "forge", desc := "(III)I" } : Jvm.MethodName)) ∈ mw_tbl := mwt_5 41 rfl rfl
set_option maxRecDepth 100000 in
theorem v1086 : (Jvm.Cond.selects "HalfOrders" ({ cls := "HalfOrders", name := "forge", desc := "(III)I" } : Jvm.MethodName) ({ cls := "HalfOrders", name := "forge", desc := "(III)I" } : Jvm.MethodName)) ∈ mw_tbl := mwt_5 42 rfl rfl
theorem ww_X11_forge : WW mi_X11_forge 163 3 := ⟨v1087, v1084, v85, v1085, v1086, ⟨by decide, by decide, by decide +kernel⟩, by decide⟩
set_option maxRecDepth 100000 in
theorem v1580 : (Jvm.Cond.code ({ cls := "HalfOrdersModel", name := "forge", desc := "(III)I" } : Jvm.MethodName) prog_14_method_97_code (6 : Nat) (Option.some Jvm.ClassFile.FieldType.int)) ∈ mw_tbl := mwt_7 56 rfl rfl
set_option maxRecDepth 100000 in
theorem v1577 : (Jvm.Cond.methodLink "HalfOrdersLaw" (166 : Nat) ({ cls := "HalfOrdersModel", name := "forge", desc := "(III)I" } : Jvm.MethodName)) ∈ mw_tbl := mwt_7 53 rfl rfl
set_option maxRecDepth 100000 in
theorem v1578 : (Jvm.Cond.instanceMethod ({ cls := "HalfOrdersModel", name := "forge", desc := "(III)I" } : Jvm.MethodName)) ∈ mw_tbl := mwt_7 54 rfl rfl
set_option maxRecDepth 100000 in
theorem v1579 : (Jvm.Cond.selects "HalfOrdersModel" ({ cls := "HalfOrdersModel", name := "forge", desc := "(III)I" } : Jvm.MethodName) ({ cls := "HalfOrdersModel", name := "forge", desc := "(III)I" } : Jvm.MethodName)) ∈ mw_tbl := mwt_7 55 rfl rfl
theorem ww_X12_forge : WW mi_X12_forge 166 3 := ⟨v1580, v1577, v92, v1578, v1579, ⟨by decide, by decide, by decide +kernel⟩, by decide⟩
set_option synthInstance.maxSize 4096 in
set_option synthInstance.maxHeartbeats 400000 in
set_option maxRecDepth 100000 in
theorem dec_1369 : caseD 1369 3 163 166 18 := by unfold caseD argD; decide +kernel
set_option maxRecDepth 100000 in
theorem v1118 : (Jvm.Cond.code ({ cls := "HalfOrders", name := "status", desc := "()I" } : Jvm.MethodName) prog_1_method_39_code (1 : Nat) (Option.some Jvm.ClassFile.FieldType.int)) ∈ mw_tbl := mwt_5 74 rfl rfl
set_option maxRecDepth 100000 in
theorem v1115 : (Jvm.Cond.methodLink "HalfOrdersLaw" (167 : Nat) ({ cls := "HalfOrders", name := "status", desc := "()I" } : Jvm.MethodName)) ∈ mw_tbl := mwt_5 71 rfl rfl
set_option maxRecDepth 100000 in
theorem v1116 : (Jvm.Cond.instanceMethod ({ cls := "HalfOrders", name := "status", desc := "()I" } : Jvm.MethodName)) ∈ mw_tbl := mwt_5 72 rfl rfl
set_option maxRecDepth 100000 in
theorem v1117 : (Jvm.Cond.selects "HalfOrders" ({ cls := "HalfOrders", name := "status", desc := "()I" } : Jvm.MethodName) ({ cls := "HalfOrders", name := "status", desc := "()I" } : Jvm.MethodName)) ∈ mw_tbl := mwt_5 73 rfl rfl
theorem ww_X11_status : WW mi_X11_status 167 0 := ⟨v1118, v1115, v85, v1116, v1117, ⟨by decide, by decide, by decide +kernel⟩, by decide⟩
set_option maxRecDepth 100000 in
theorem v1595 : (Jvm.Cond.code ({ cls := "HalfOrdersModel", name := "status", desc := "()I" } : Jvm.MethodName) prog_14_method_98_code (1 : Nat) (Option.some Jvm.ClassFile.FieldType.int)) ∈ mw_tbl := mwt_7 71 rfl rfl
set_option maxRecDepth 100000 in
theorem v1592 : (Jvm.Cond.methodLink "HalfOrdersLaw" (170 : Nat) ({ cls := "HalfOrdersModel", name := "status", desc := "()I" } : Jvm.MethodName)) ∈ mw_tbl := mwt_7 68 rfl rfl
set_option maxRecDepth 100000 in
theorem v1593 : (Jvm.Cond.instanceMethod ({ cls := "HalfOrdersModel", name := "status", desc := "()I" } : Jvm.MethodName)) ∈ mw_tbl := mwt_7 69 rfl rfl
set_option maxRecDepth 100000 in
theorem v1594 : (Jvm.Cond.selects "HalfOrdersModel" ({ cls := "HalfOrdersModel", name := "status", desc := "()I" } : Jvm.MethodName) ({ cls := "HalfOrdersModel", name := "status", desc := "()I" } : Jvm.MethodName)) ∈ mw_tbl := mwt_7 70 rfl rfl
theorem ww_X12_status : WW mi_X12_status 170 0 := ⟨v1595, v1592, v92, v1593, v1594, ⟨by decide, by decide, by decide +kernel⟩, by decide⟩
set_option synthInstance.maxSize 4096 in
set_option synthInstance.maxHeartbeats 400000 in
set_option maxRecDepth 100000 in
theorem dec_1412 : caseD 1412 0 167 170 5 := by unfold caseD argD; decide +kernel
section CASES
variable {G : GG} {p : Program} {e : Env} {s : State} {m : MethodId} {below : List Frame} {meth : Method} {c : Code} {b L : Nat} {xs : Nat → Int32} {H : Heap} {locs : List Loc} {cells slots : Nat} {Zw : State → Prop} {ls : Array Slot} {n : Nat} {K : KK} {M : MM}
theorem law_200 (cx : LX G p s m b L xs c) (hr : HR G n K M H) (hs : va_S (mw_own G) s.heap H locs) {i : Int} (hl : lv_has ls 4 (LLv b G.2.2.2 i)) (hi : 0 ≤ i ∧ i + 5 ≤ L) (hL : L ≤ 2560) (h : LK K M) (hn : 55 ≤ n ∧ n < 50000) (hcs : cells + 3 ≤ 600000 ∧ slots + 25 ≤ 7302250) (kk : ∀ (n' : Nat) (K' : KK) (M' : MM) (H1 : Heap) (locs1 : List Loc), LK K' M' → n' ≤ n + 3 → 55 ≤ n' → HR G n' K' M' H1 → va_S (mw_own G) s.heap H1 locs1 → W p G.1 e room_1 s m #[Value.ref b] below meth c H1 locs1 (cells + 3) (slots + 25) Zw (F0 m 1425 ls [])) : W p G.1 e room_1 s m #[Value.ref b] below meth c H locs cells slots Zw (F0 m 200 ls []) :=
  law_case (av := [(0, xv xs (i + 1))]) cx hr hs hl hi hL h.wf hcs rfl dec_200 (c_X11_order h hn) (fun n1 K1 M1 h1 => c_X12_order h1.1) (sem_c_order h hn.1 hr.2.2.1) (by decide) ww_X11_order ww_X12_order rfl rfl ⟨⟨by decide, by decide⟩, by decide, by decide⟩ kk
theorem law_223 (cx : LX G p s m b L xs c) (hr : HR G n K M H) (hs : va_S (mw_own G) s.heap H locs) {i : Int} (hl : lv_has ls 4 (LLv b G.2.2.2 i)) (hi : 0 ≤ i ∧ i + 5 ≤ L) (hL : L ≤ 2560) (h : LK K M) (hn : 55 ≤ n ∧ n < 50000) (hcs : cells + 3 ≤ 600000 ∧ slots + 25 ≤ 7302250) (kk : ∀ (n' : Nat) (K' : KK) (M' : MM) (H1 : Heap) (locs1 : List Loc), LK K' M' → n' ≤ n + 3 → 55 ≤ n' → HR G n' K' M' H1 → va_S (mw_own G) s.heap H1 locs1 → W p G.1 e room_1 s m #[Value.ref b] below meth c H1 locs1 (cells + 3) (slots + 25) Zw (F0 m 1425 ls [])) : W p G.1 e room_1 s m #[Value.ref b] below meth c H locs cells slots Zw (F0 m 223 ls []) :=
  law_case (av := [(0, xv xs (i + 1)), (0, xv xs (i + 2)), (0, xv xs (i + 3))]) cx hr hs hl hi hL h.wf hcs rfl dec_223 (c_X11_pair h) (fun n1 K1 M1 h1 => c_X12_pair h1.1 (h1.2.1 _)) (sem_c_pair h hn.1) (by decide) ww_X11_pair ww_X12_pair rfl rfl ⟨⟨by decide, by decide⟩, by decide, by decide⟩ kk
theorem law_266 (cx : LX G p s m b L xs c) (hr : HR G n K M H) (hs : va_S (mw_own G) s.heap H locs) {i : Int} (hl : lv_has ls 4 (LLv b G.2.2.2 i)) (hi : 0 ≤ i ∧ i + 5 ≤ L) (hL : L ≤ 2560) (h : LK K M) (hn : 55 ≤ n ∧ n < 50000) (hcs : cells + 3 ≤ 600000 ∧ slots + 25 ≤ 7302250) (kk : ∀ (n' : Nat) (K' : KK) (M' : MM) (H1 : Heap) (locs1 : List Loc), LK K' M' → n' ≤ n + 3 → 55 ≤ n' → HR G n' K' M' H1 → va_S (mw_own G) s.heap H1 locs1 → W p G.1 e room_1 s m #[Value.ref b] below meth c H1 locs1 (cells + 3) (slots + 25) Zw (F0 m 1425 ls [])) : W p G.1 e room_1 s m #[Value.ref b] below meth c H locs cells slots Zw (F0 m 266 ls []) :=
  law_case (av := [(0, xv xs (i + 1))]) cx hr hs hl hi hL h.wf hcs rfl dec_266 (c_X11_round h) (fun n1 K1 M1 h1 => c_X12_round h1.1.1 h1.2.2.2.2.2.2.1) (sem_c_round h hn.1) (by decide) ww_X11_round ww_X12_round rfl rfl ⟨⟨by decide, by decide⟩, by decide, by decide⟩ kk
theorem law_289 (cx : LX G p s m b L xs c) (hr : HR G n K M H) (hs : va_S (mw_own G) s.heap H locs) {i : Int} (hl : lv_has ls 4 (LLv b G.2.2.2 i)) (hi : 0 ≤ i ∧ i + 5 ≤ L) (hL : L ≤ 2560) (h : LK K M) (hn : 55 ≤ n ∧ n < 50000) (hcs : cells + 3 ≤ 600000 ∧ slots + 25 ≤ 7302250) (kk : ∀ (n' : Nat) (K' : KK) (M' : MM) (H1 : Heap) (locs1 : List Loc), LK K' M' → n' ≤ n + 3 → 55 ≤ n' → HR G n' K' M' H1 → va_S (mw_own G) s.heap H1 locs1 → W p G.1 e room_1 s m #[Value.ref b] below meth c H1 locs1 (cells + 3) (slots + 25) Zw (F0 m 1425 ls [])) : W p G.1 e room_1 s m #[Value.ref b] below meth c H locs cells slots Zw (F0 m 289 ls []) :=
  law_case (av := [(0, xv xs (i + 1)), (0, xv xs (i + 2))]) cx hr hs hl hi hL h.wf hcs rfl dec_289 (c_X11_stack h hn) (fun n1 K1 M1 h1 => c_X12_stack h1.1) (sem_c_stack h hn.1 hr.2.2.1) (by decide) ww_X11_stack ww_X12_stack rfl rfl ⟨⟨by decide, by decide⟩, by decide, by decide⟩ kk
theorem law_322 (cx : LX G p s m b L xs c) (hr : HR G n K M H) (hs : va_S (mw_own G) s.heap H locs) {i : Int} (hl : lv_has ls 4 (LLv b G.2.2.2 i)) (hi : 0 ≤ i ∧ i + 5 ≤ L) (hL : L ≤ 2560) (h : LK K M) (hn : 55 ≤ n ∧ n < 50000) (hcs : cells + 3 ≤ 600000 ∧ slots + 25 ≤ 7302250) (kk : ∀ (n' : Nat) (K' : KK) (M' : MM) (H1 : Heap) (locs1 : List Loc), LK K' M' → n' ≤ n + 3 → 55 ≤ n' → HR G n' K' M' H1 → va_S (mw_own G) s.heap H1 locs1 → W p G.1 e room_1 s m #[Value.ref b] below meth c H1 locs1 (cells + 3) (slots + 25) Zw (F0 m 1425 ls [])) : W p G.1 e room_1 s m #[Value.ref b] below meth c H locs cells slots Zw (F0 m 322 ls []) :=
  law_case (av := [(0, xv xs (i + 1)), (0, xv xs (i + 2))]) cx hr hs hl hi hL h.wf hcs rfl dec_322 (c_X11_beside h hn) (fun n1 K1 M1 h1 => c_X12_beside h1.1) (sem_c_beside h hn.1 hr.2.2.1) (by decide) ww_X11_beside ww_X12_beside rfl rfl ⟨⟨by decide, by decide⟩, by decide, by decide⟩ kk
theorem law_355 (cx : LX G p s m b L xs c) (hr : HR G n K M H) (hs : va_S (mw_own G) s.heap H locs) {i : Int} (hl : lv_has ls 4 (LLv b G.2.2.2 i)) (hi : 0 ≤ i ∧ i + 5 ≤ L) (hL : L ≤ 2560) (h : LK K M) (hn : 55 ≤ n ∧ n < 50000) (hcs : cells + 3 ≤ 600000 ∧ slots + 25 ≤ 7302250) (kk : ∀ (n' : Nat) (K' : KK) (M' : MM) (H1 : Heap) (locs1 : List Loc), LK K' M' → n' ≤ n + 3 → 55 ≤ n' → HR G n' K' M' H1 → va_S (mw_own G) s.heap H1 locs1 → W p G.1 e room_1 s m #[Value.ref b] below meth c H1 locs1 (cells + 3) (slots + 25) Zw (F0 m 1425 ls [])) : W p G.1 e room_1 s m #[Value.ref b] below meth c H locs cells slots Zw (F0 m 355 ls []) :=
  law_case (av := [(0, xv xs (i + 1)), (0, xv xs (i + 2))]) cx hr hs hl hi hL h.wf hcs rfl dec_355 (c_X11_times h hn) (fun n1 K1 M1 h1 => c_X12_times h1.1) (sem_c_times h hn.1 hr.2.2.1) (by decide) ww_X11_times ww_X12_times rfl rfl ⟨⟨by decide, by decide⟩, by decide, by decide⟩ kk
theorem law_388 (cx : LX G p s m b L xs c) (hr : HR G n K M H) (hs : va_S (mw_own G) s.heap H locs) {i : Int} (hl : lv_has ls 4 (LLv b G.2.2.2 i)) (hi : 0 ≤ i ∧ i + 5 ≤ L) (hL : L ≤ 2560) (h : LK K M) (hn : 55 ≤ n ∧ n < 50000) (hcs : cells + 3 ≤ 600000 ∧ slots + 25 ≤ 7302250) (kk : ∀ (n' : Nat) (K' : KK) (M' : MM) (H1 : Heap) (locs1 : List Loc), LK K' M' → n' ≤ n + 3 → 55 ≤ n' → HR G n' K' M' H1 → va_S (mw_own G) s.heap H1 locs1 → W p G.1 e room_1 s m #[Value.ref b] below meth c H1 locs1 (cells + 3) (slots + 25) Zw (F0 m 1425 ls [])) : W p G.1 e room_1 s m #[Value.ref b] below meth c H locs cells slots Zw (F0 m 388 ls []) :=
  law_case (av := [(0, xv xs (i + 1))]) cx hr hs hl hi hL h.wf hcs rfl dec_388 (c_X11_held h hn) (fun n1 K1 M1 h1 => c_X12_held h1.1) (sem_c_held h hn.1 hr.2.2.1) (by decide) ww_X11_held ww_X12_held rfl rfl ⟨⟨by decide, by decide⟩, by decide, by decide⟩ kk
theorem law_411 (cx : LX G p s m b L xs c) (hr : HR G n K M H) (hs : va_S (mw_own G) s.heap H locs) {i : Int} (hl : lv_has ls 4 (LLv b G.2.2.2 i)) (hi : 0 ≤ i ∧ i + 5 ≤ L) (hL : L ≤ 2560) (h : LK K M) (hn : 55 ≤ n ∧ n < 50000) (hcs : cells + 3 ≤ 600000 ∧ slots + 25 ≤ 7302250) (kk : ∀ (n' : Nat) (K' : KK) (M' : MM) (H1 : Heap) (locs1 : List Loc), LK K' M' → n' ≤ n + 3 → 55 ≤ n' → HR G n' K' M' H1 → va_S (mw_own G) s.heap H1 locs1 → W p G.1 e room_1 s m #[Value.ref b] below meth c H1 locs1 (cells + 3) (slots + 25) Zw (F0 m 1425 ls [])) : W p G.1 e room_1 s m #[Value.ref b] below meth c H locs cells slots Zw (F0 m 411 ls []) :=
  law_case (av := [(0, xv xs (i + 1))]) cx hr hs hl hi hL h.wf hcs rfl dec_411 (c_X11_row h hn) (fun n1 K1 M1 h1 => c_X12_row h1.1) (sem_c_row h hn.1 hr.2.2.1) (by decide) ww_X11_row ww_X12_row rfl rfl ⟨⟨by decide, by decide⟩, by decide, by decide⟩ kk
theorem law_434 (cx : LX G p s m b L xs c) (hr : HR G n K M H) (hs : va_S (mw_own G) s.heap H locs) {i : Int} (hl : lv_has ls 4 (LLv b G.2.2.2 i)) (hi : 0 ≤ i ∧ i + 5 ≤ L) (hL : L ≤ 2560) (h : LK K M) (hn : 55 ≤ n ∧ n < 50000) (hcs : cells + 3 ≤ 600000 ∧ slots + 25 ≤ 7302250) (kk : ∀ (n' : Nat) (K' : KK) (M' : MM) (H1 : Heap) (locs1 : List Loc), LK K' M' → n' ≤ n + 3 → 55 ≤ n' → HR G n' K' M' H1 → va_S (mw_own G) s.heap H1 locs1 → W p G.1 e room_1 s m #[Value.ref b] below meth c H1 locs1 (cells + 3) (slots + 25) Zw (F0 m 1425 ls [])) : W p G.1 e room_1 s m #[Value.ref b] below meth c H locs cells slots Zw (F0 m 434 ls []) :=
  law_case (av := [(0, xv xs (i + 1))]) cx hr hs hl hi hL h.wf hcs rfl dec_434 (c_X11_dual h hn) (fun n1 K1 M1 h1 => c_X12_dual h1.1) (sem_c_dual h hn.1 hr.2.2.1) (by decide) ww_X11_dual ww_X12_dual rfl rfl ⟨⟨by decide, by decide⟩, by decide, by decide⟩ kk
theorem law_457 (cx : LX G p s m b L xs c) (hr : HR G n K M H) (hs : va_S (mw_own G) s.heap H locs) {i : Int} (hl : lv_has ls 4 (LLv b G.2.2.2 i)) (hi : 0 ≤ i ∧ i + 5 ≤ L) (hL : L ≤ 2560) (h : LK K M) (hn : 55 ≤ n ∧ n < 50000) (hcs : cells + 3 ≤ 600000 ∧ slots + 25 ≤ 7302250) (kk : ∀ (n' : Nat) (K' : KK) (M' : MM) (H1 : Heap) (locs1 : List Loc), LK K' M' → n' ≤ n + 3 → 55 ≤ n' → HR G n' K' M' H1 → va_S (mw_own G) s.heap H1 locs1 → W p G.1 e room_1 s m #[Value.ref b] below meth c H1 locs1 (cells + 3) (slots + 25) Zw (F0 m 1425 ls [])) : W p G.1 e room_1 s m #[Value.ref b] below meth c H locs cells slots Zw (F0 m 457 ls []) :=
  law_case (av := [(0, xv xs (i + 1)), (0, xv xs (i + 2))]) cx hr hs hl hi hL h.wf hcs rfl dec_457 (c_X11_part h hn) (fun n1 K1 M1 h1 => c_X12_part h1.1) (sem_c_part h hn.1 hr.2.2.1 (inR_to _)) (by decide) ww_X11_part ww_X12_part rfl rfl ⟨⟨by decide, by decide⟩, by decide, by decide⟩ kk
theorem law_490 (cx : LX G p s m b L xs c) (hr : HR G n K M H) (hs : va_S (mw_own G) s.heap H locs) {i : Int} (hl : lv_has ls 4 (LLv b G.2.2.2 i)) (hi : 0 ≤ i ∧ i + 5 ≤ L) (hL : L ≤ 2560) (h : LK K M) (hn : 55 ≤ n ∧ n < 50000) (hcs : cells + 3 ≤ 600000 ∧ slots + 25 ≤ 7302250) (kk : ∀ (n' : Nat) (K' : KK) (M' : MM) (H1 : Heap) (locs1 : List Loc), LK K' M' → n' ≤ n + 3 → 55 ≤ n' → HR G n' K' M' H1 → va_S (mw_own G) s.heap H1 locs1 → W p G.1 e room_1 s m #[Value.ref b] below meth c H1 locs1 (cells + 3) (slots + 25) Zw (F0 m 1425 ls [])) : W p G.1 e room_1 s m #[Value.ref b] below meth c H locs cells slots Zw (F0 m 490 ls []) :=
  law_case (av := []) cx hr hs hl hi hL h.wf hcs rfl dec_490 (c_X11_drop h) (fun n1 K1 M1 h1 => c_X12_drop h1.1) (sem_c_drop h hn.1) (by decide) ww_X11_drop ww_X12_drop rfl rfl ⟨⟨by decide, by decide⟩, by decide, by decide⟩ kk
theorem law_503 (cx : LX G p s m b L xs c) (hr : HR G n K M H) (hs : va_S (mw_own G) s.heap H locs) {i : Int} (hl : lv_has ls 4 (LLv b G.2.2.2 i)) (hi : 0 ≤ i ∧ i + 5 ≤ L) (hL : L ≤ 2560) (h : LK K M) (hn : 55 ≤ n ∧ n < 50000) (hcs : cells + 3 ≤ 600000 ∧ slots + 25 ≤ 7302250) (kk : ∀ (n' : Nat) (K' : KK) (M' : MM) (H1 : Heap) (locs1 : List Loc), LK K' M' → n' ≤ n + 3 → 55 ≤ n' → HR G n' K' M' H1 → va_S (mw_own G) s.heap H1 locs1 → W p G.1 e room_1 s m #[Value.ref b] below meth c H1 locs1 (cells + 3) (slots + 25) Zw (F0 m 1425 ls [])) : W p G.1 e room_1 s m #[Value.ref b] below meth c H locs cells slots Zw (F0 m 503 ls []) :=
  law_case (av := [(0, xv xs (i + 1)), (0, xv xs (i + 2))]) cx hr hs hl hi hL h.wf hcs rfl dec_503 (c_X11_told h) (fun n1 K1 M1 h1 => c_X12_told h1.1 (h1.2.1 _) h1.2.2.2.2.2.1) (sem_c_told h hn.1) (by decide) ww_X11_told ww_X12_told rfl rfl ⟨⟨by decide, by decide⟩, by decide, by decide⟩ kk
theorem law_536 (cx : LX G p s m b L xs c) (hr : HR G n K M H) (hs : va_S (mw_own G) s.heap H locs) {i : Int} (hl : lv_has ls 4 (LLv b G.2.2.2 i)) (hi : 0 ≤ i ∧ i + 5 ≤ L) (hL : L ≤ 2560) (h : LK K M) (hn : 55 ≤ n ∧ n < 50000) (hcs : cells + 3 ≤ 600000 ∧ slots + 25 ≤ 7302250) (kk : ∀ (n' : Nat) (K' : KK) (M' : MM) (H1 : Heap) (locs1 : List Loc), LK K' M' → n' ≤ n + 3 → 55 ≤ n' → HR G n' K' M' H1 → va_S (mw_own G) s.heap H1 locs1 → W p G.1 e room_1 s m #[Value.ref b] below meth c H1 locs1 (cells + 3) (slots + 25) Zw (F0 m 1425 ls [])) : W p G.1 e room_1 s m #[Value.ref b] below meth c H locs cells slots Zw (F0 m 536 ls []) :=
  law_case (av := [(0, xv xs (i + 1))]) cx hr hs hl hi hL h.wf hcs rfl dec_536 (c_X11_count h) (fun n1 K1 M1 h1 => c_X12_count h1.1.1) (sem_c_count h hn.1) (by decide) ww_X11_count ww_X12_count rfl rfl ⟨⟨by decide, by decide⟩, by decide, by decide⟩ kk
theorem law_559 (cx : LX G p s m b L xs c) (hr : HR G n K M H) (hs : va_S (mw_own G) s.heap H locs) {i : Int} (hl : lv_has ls 4 (LLv b G.2.2.2 i)) (hi : 0 ≤ i ∧ i + 5 ≤ L) (hL : L ≤ 2560) (h : LK K M) (hn : 55 ≤ n ∧ n < 50000) (hcs : cells + 3 ≤ 600000 ∧ slots + 25 ≤ 7302250) (kk : ∀ (n' : Nat) (K' : KK) (M' : MM) (H1 : Heap) (locs1 : List Loc), LK K' M' → n' ≤ n + 3 → 55 ≤ n' → HR G n' K' M' H1 → va_S (mw_own G) s.heap H1 locs1 → W p G.1 e room_1 s m #[Value.ref b] below meth c H1 locs1 (cells + 3) (slots + 25) Zw (F0 m 1425 ls [])) : W p G.1 e room_1 s m #[Value.ref b] below meth c H locs cells slots Zw (F0 m 559 ls []) :=
  law_case (av := [(0, xv xs (i + 1)), (0, xv xs (i + 2)), (0, xv xs (i + 3))]) cx hr hs hl hi hL h.wf hcs rfl dec_559 (c_X11_below h) (fun n1 K1 M1 h1 => c_X12_below h1.1) (sem_c_below h hn.1) (by decide) ww_X11_below ww_X12_below rfl rfl ⟨⟨by decide, by decide⟩, by decide, by decide⟩ kk
theorem law_602 (cx : LX G p s m b L xs c) (hr : HR G n K M H) (hs : va_S (mw_own G) s.heap H locs) {i : Int} (hl : lv_has ls 4 (LLv b G.2.2.2 i)) (hi : 0 ≤ i ∧ i + 5 ≤ L) (hL : L ≤ 2560) (h : LK K M) (hn : 55 ≤ n ∧ n < 50000) (hcs : cells + 3 ≤ 600000 ∧ slots + 25 ≤ 7302250) (kk : ∀ (n' : Nat) (K' : KK) (M' : MM) (H1 : Heap) (locs1 : List Loc), LK K' M' → n' ≤ n + 3 → 55 ≤ n' → HR G n' K' M' H1 → va_S (mw_own G) s.heap H1 locs1 → W p G.1 e room_1 s m #[Value.ref b] below meth c H1 locs1 (cells + 3) (slots + 25) Zw (F0 m 1425 ls [])) : W p G.1 e room_1 s m #[Value.ref b] below meth c H locs cells slots Zw (F0 m 602 ls []) :=
  law_case (av := [(0, xv xs (i + 1))]) cx hr hs hl hi hL h.wf hcs rfl dec_602 (c_X11_widest h) (fun n1 K1 M1 h1 => c_X12_widest h1.1) (sem_c_widest h hn.1) (by decide) ww_X11_widest ww_X12_widest rfl rfl ⟨⟨by decide, by decide⟩, by decide, by decide⟩ kk
theorem law_625 (cx : LX G p s m b L xs c) (hr : HR G n K M H) (hs : va_S (mw_own G) s.heap H locs) {i : Int} (hl : lv_has ls 4 (LLv b G.2.2.2 i)) (hi : 0 ≤ i ∧ i + 5 ≤ L) (hL : L ≤ 2560) (h : LK K M) (hn : 55 ≤ n ∧ n < 50000) (hcs : cells + 3 ≤ 600000 ∧ slots + 25 ≤ 7302250) (kk : ∀ (n' : Nat) (K' : KK) (M' : MM) (H1 : Heap) (locs1 : List Loc), LK K' M' → n' ≤ n + 3 → 55 ≤ n' → HR G n' K' M' H1 → va_S (mw_own G) s.heap H1 locs1 → W p G.1 e room_1 s m #[Value.ref b] below meth c H1 locs1 (cells + 3) (slots + 25) Zw (F0 m 1425 ls [])) : W p G.1 e room_1 s m #[Value.ref b] below meth c H locs cells slots Zw (F0 m 625 ls []) :=
  law_case (av := [(0, xv xs (i + 1)), (0, xv xs (i + 2)), (0, xv xs (i + 3))]) cx hr hs hl hi hL h.wf hcs rfl dec_625 (c_X11_of h) (fun n1 K1 M1 h1 => c_X12_of h1.1 (fun ht => h1.ch ht)) (sem_c_of h hn.1) (by decide) ww_X11_of ww_X12_of rfl rfl ⟨⟨by decide, by decide⟩, by decide, by decide⟩ kk
theorem law_668 (cx : LX G p s m b L xs c) (hr : HR G n K M H) (hs : va_S (mw_own G) s.heap H locs) {i : Int} (hl : lv_has ls 4 (LLv b G.2.2.2 i)) (hi : 0 ≤ i ∧ i + 5 ≤ L) (hL : L ≤ 2560) (h : LK K M) (hn : 55 ≤ n ∧ n < 50000) (hcs : cells + 3 ≤ 600000 ∧ slots + 25 ≤ 7302250) (kk : ∀ (n' : Nat) (K' : KK) (M' : MM) (H1 : Heap) (locs1 : List Loc), LK K' M' → n' ≤ n + 3 → 55 ≤ n' → HR G n' K' M' H1 → va_S (mw_own G) s.heap H1 locs1 → W p G.1 e room_1 s m #[Value.ref b] below meth c H1 locs1 (cells + 3) (slots + 25) Zw (F0 m 1425 ls [])) : W p G.1 e room_1 s m #[Value.ref b] below meth c H locs cells slots Zw (F0 m 668 ls []) :=
  law_case (av := [(0, xv xs (i + 1)), (0, xv xs (i + 2))]) cx hr hs hl hi hL h.wf hcs rfl dec_668 (c_X11_low h) (fun n1 K1 M1 h1 => c_X12_low h1.1) (sem_c_low h hn.1) (by decide) ww_X11_low ww_X12_low rfl rfl ⟨⟨by decide, by decide⟩, by decide, by decide⟩ kk
theorem law_701 (cx : LX G p s m b L xs c) (hr : HR G n K M H) (hs : va_S (mw_own G) s.heap H locs) {i : Int} (hl : lv_has ls 4 (LLv b G.2.2.2 i)) (hi : 0 ≤ i ∧ i + 5 ≤ L) (hL : L ≤ 2560) (h : LK K M) (hn : 55 ≤ n ∧ n < 50000) (hcs : cells + 3 ≤ 600000 ∧ slots + 25 ≤ 7302250) (kk : ∀ (n' : Nat) (K' : KK) (M' : MM) (H1 : Heap) (locs1 : List Loc), LK K' M' → n' ≤ n + 3 → 55 ≤ n' → HR G n' K' M' H1 → va_S (mw_own G) s.heap H1 locs1 → W p G.1 e room_1 s m #[Value.ref b] below meth c H1 locs1 (cells + 3) (slots + 25) Zw (F0 m 1425 ls [])) : W p G.1 e room_1 s m #[Value.ref b] below meth c H locs cells slots Zw (F0 m 701 ls []) :=
  law_case (av := [(0, xv xs (i + 1)), (0, xv xs (i + 2)), (0, xv xs (i + 3))]) cx hr hs hl hi hL h.wf hcs rfl dec_701 (c_X11_rowOut h) (fun n1 K1 M1 h1 => c_X12_rowOut h1.1) (sem_c_rowOut h hn.1) (by decide) ww_X11_rowOut ww_X12_rowOut rfl rfl ⟨⟨by decide, by decide⟩, by decide, by decide⟩ kk
theorem law_744 (cx : LX G p s m b L xs c) (hr : HR G n K M H) (hs : va_S (mw_own G) s.heap H locs) {i : Int} (hl : lv_has ls 4 (LLv b G.2.2.2 i)) (hi : 0 ≤ i ∧ i + 5 ≤ L) (hL : L ≤ 2560) (h : LK K M) (hn : 55 ≤ n ∧ n < 50000) (hcs : cells + 3 ≤ 600000 ∧ slots + 25 ≤ 7302250) (kk : ∀ (n' : Nat) (K' : KK) (M' : MM) (H1 : Heap) (locs1 : List Loc), LK K' M' → n' ≤ n + 3 → 55 ≤ n' → HR G n' K' M' H1 → va_S (mw_own G) s.heap H1 locs1 → W p G.1 e room_1 s m #[Value.ref b] below meth c H1 locs1 (cells + 3) (slots + 25) Zw (F0 m 1425 ls [])) : W p G.1 e room_1 s m #[Value.ref b] below meth c H locs cells slots Zw (F0 m 744 ls []) :=
  law_case (av := [(0, xv xs (i + 1)), (0, xv xs (i + 2)), (0, xv xs (i + 3))]) cx hr hs hl hi hL h.wf hcs rfl dec_744 (c_X11_before h) (fun n1 K1 M1 h1 => c_X12_before h1.1) (sem_c_before h hn.1) (by decide) ww_X11_before ww_X12_before rfl rfl ⟨⟨by decide, by decide⟩, by decide, by decide⟩ kk
theorem law_787 (cx : LX G p s m b L xs c) (hr : HR G n K M H) (hs : va_S (mw_own G) s.heap H locs) {i : Int} (hl : lv_has ls 4 (LLv b G.2.2.2 i)) (hi : 0 ≤ i ∧ i + 5 ≤ L) (hL : L ≤ 2560) (h : LK K M) (hn : 55 ≤ n ∧ n < 50000) (hcs : cells + 3 ≤ 600000 ∧ slots + 25 ≤ 7302250) (kk : ∀ (n' : Nat) (K' : KK) (M' : MM) (H1 : Heap) (locs1 : List Loc), LK K' M' → n' ≤ n + 3 → 55 ≤ n' → HR G n' K' M' H1 → va_S (mw_own G) s.heap H1 locs1 → W p G.1 e room_1 s m #[Value.ref b] below meth c H1 locs1 (cells + 3) (slots + 25) Zw (F0 m 1425 ls [])) : W p G.1 e room_1 s m #[Value.ref b] below meth c H locs cells slots Zw (F0 m 787 ls []) :=
  law_caseL (av := [(0, xv xs (i + 1)), (0, xv xs (i + 2))]) cx hr hs hl hi hL h.wf hcs rfl dec_787 (c_X11_places h) (fun n1 K1 M1 h1 => c_X12_places h1.1) (sem_c_places h hn.1) (by decide) ww_X11_places ww_X12_places rfl rfl ⟨⟨by decide, by decide⟩, by decide, by decide⟩ kk
theorem law_821 (cx : LX G p s m b L xs c) (hr : HR G n K M H) (hs : va_S (mw_own G) s.heap H locs) {i : Int} (hl : lv_has ls 4 (LLv b G.2.2.2 i)) (hi : 0 ≤ i ∧ i + 5 ≤ L) (hL : L ≤ 2560) (h : LK K M) (hn : 55 ≤ n ∧ n < 50000) (hcs : cells + 3 ≤ 600000 ∧ slots + 25 ≤ 7302250) (kk : ∀ (n' : Nat) (K' : KK) (M' : MM) (H1 : Heap) (locs1 : List Loc), LK K' M' → n' ≤ n + 3 → 55 ≤ n' → HR G n' K' M' H1 → va_S (mw_own G) s.heap H1 locs1 → W p G.1 e room_1 s m #[Value.ref b] below meth c H1 locs1 (cells + 3) (slots + 25) Zw (F0 m 1425 ls [])) : W p G.1 e room_1 s m #[Value.ref b] below meth c H locs cells slots Zw (F0 m 821 ls []) :=
  law_case (av := [(0, xv xs (i + 1))]) cx hr hs hl hi hL h.wf hcs rfl dec_821 (c_X11_fair h) (fun n1 K1 M1 h1 => c_X12_fair h1.1) (sem_c_fair h hn.1) (by decide) ww_X11_fair ww_X12_fair rfl rfl ⟨⟨by decide, by decide⟩, by decide, by decide⟩ kk
theorem law_844 (cx : LX G p s m b L xs c) (hr : HR G n K M H) (hs : va_S (mw_own G) s.heap H locs) {i : Int} (hl : lv_has ls 4 (LLv b G.2.2.2 i)) (hi : 0 ≤ i ∧ i + 5 ≤ L) (hL : L ≤ 2560) (h : LK K M) (hn : 55 ≤ n ∧ n < 50000) (hcs : cells + 3 ≤ 600000 ∧ slots + 25 ≤ 7302250) (kk : ∀ (n' : Nat) (K' : KK) (M' : MM) (H1 : Heap) (locs1 : List Loc), LK K' M' → n' ≤ n + 3 → 55 ≤ n' → HR G n' K' M' H1 → va_S (mw_own G) s.heap H1 locs1 → W p G.1 e room_1 s m #[Value.ref b] below meth c H1 locs1 (cells + 3) (slots + 25) Zw (F0 m 1425 ls [])) : W p G.1 e room_1 s m #[Value.ref b] below meth c H locs cells slots Zw (F0 m 844 ls []) :=
  law_case (av := [(0, xv xs (i + 1)), (0, xv xs (i + 2)), (0, xv xs (i + 3))]) cx hr hs hl hi hL h.wf hcs rfl dec_844 (c_X11_two h) (fun n1 K1 M1 h1 => c_X12_two h1.1 (h1.2.1 _) h1.2.2.2.2.2.1) (sem_c_two h hn.1) (by decide) ww_X11_two ww_X12_two rfl rfl ⟨⟨by decide, by decide⟩, by decide, by decide⟩ kk
theorem law_887 (cx : LX G p s m b L xs c) (hr : HR G n K M H) (hs : va_S (mw_own G) s.heap H locs) {i : Int} (hl : lv_has ls 4 (LLv b G.2.2.2 i)) (hi : 0 ≤ i ∧ i + 5 ≤ L) (hL : L ≤ 2560) (h : LK K M) (hn : 55 ≤ n ∧ n < 50000) (hcs : cells + 3 ≤ 600000 ∧ slots + 25 ≤ 7302250) (kk : ∀ (n' : Nat) (K' : KK) (M' : MM) (H1 : Heap) (locs1 : List Loc), LK K' M' → n' ≤ n + 3 → 55 ≤ n' → HR G n' K' M' H1 → va_S (mw_own G) s.heap H1 locs1 → W p G.1 e room_1 s m #[Value.ref b] below meth c H1 locs1 (cells + 3) (slots + 25) Zw (F0 m 1425 ls [])) : W p G.1 e room_1 s m #[Value.ref b] below meth c H locs cells slots Zw (F0 m 887 ls []) :=
  law_case (av := [(0, xv xs (i + 1)), (0, xv xs (i + 2)), (0, xv xs (i + 3))]) cx hr hs hl hi hL h.wf hcs rfl dec_887 (c_X11_invert h) (fun n1 K1 M1 h1 => c_X12_invert h1.1) (sem_c_invert h hn.1) (by decide) ww_X11_invert ww_X12_invert rfl rfl ⟨⟨by decide, by decide⟩, by decide, by decide⟩ kk
theorem law_930 (cx : LX G p s m b L xs c) (hr : HR G n K M H) (hs : va_S (mw_own G) s.heap H locs) {i : Int} (hl : lv_has ls 4 (LLv b G.2.2.2 i)) (hi : 0 ≤ i ∧ i + 5 ≤ L) (hL : L ≤ 2560) (h : LK K M) (hn : 55 ≤ n ∧ n < 50000) (hcs : cells + 3 ≤ 600000 ∧ slots + 25 ≤ 7302250) (kk : ∀ (n' : Nat) (K' : KK) (M' : MM) (H1 : Heap) (locs1 : List Loc), LK K' M' → n' ≤ n + 3 → 55 ≤ n' → HR G n' K' M' H1 → va_S (mw_own G) s.heap H1 locs1 → W p G.1 e room_1 s m #[Value.ref b] below meth c H1 locs1 (cells + 3) (slots + 25) Zw (F0 m 1425 ls [])) : W p G.1 e room_1 s m #[Value.ref b] below meth c H locs cells slots Zw (F0 m 930 ls []) :=
  law_case (av := [(0, xv xs (i + 1)), (0, xv xs (i + 2)), (0, xv xs (i + 3)), (0, xv xs (i + 4))]) cx hr hs hl hi hL h.wf hcs rfl dec_930 (c_X11_bound h) (fun n1 K1 M1 h1 => c_X12_bound h1.1) (sem_c_bound h hn.1) (by decide) ww_X11_bound ww_X12_bound rfl rfl ⟨⟨by decide, by decide⟩, by decide, by decide⟩ kk
theorem law_983 (cx : LX G p s m b L xs c) (hr : HR G n K M H) (hs : va_S (mw_own G) s.heap H locs) {i : Int} (hl : lv_has ls 4 (LLv b G.2.2.2 i)) (hi : 0 ≤ i ∧ i + 5 ≤ L) (hL : L ≤ 2560) (h : LK K M) (hn : 55 ≤ n ∧ n < 50000) (hcs : cells + 3 ≤ 600000 ∧ slots + 25 ≤ 7302250) (kk : ∀ (n' : Nat) (K' : KK) (M' : MM) (H1 : Heap) (locs1 : List Loc), LK K' M' → n' ≤ n + 3 → 55 ≤ n' → HR G n' K' M' H1 → va_S (mw_own G) s.heap H1 locs1 → W p G.1 e room_1 s m #[Value.ref b] below meth c H1 locs1 (cells + 3) (slots + 25) Zw (F0 m 1425 ls [])) : W p G.1 e room_1 s m #[Value.ref b] below meth c H locs cells slots Zw (F0 m 983 ls []) :=
  law_case (av := [(0, xv xs (i + 1))]) cx hr hs hl hi hL h.wf hcs rfl dec_983 (c_X11_uneven h) (fun n1 K1 M1 h1 => c_X12_uneven h1.1) (sem_c_uneven h hn.1) (by decide) ww_X11_uneven ww_X12_uneven rfl rfl ⟨⟨by decide, by decide⟩, by decide, by decide⟩ kk
theorem law_1006 (cx : LX G p s m b L xs c) (hr : HR G n K M H) (hs : va_S (mw_own G) s.heap H locs) {i : Int} (hl : lv_has ls 4 (LLv b G.2.2.2 i)) (hi : 0 ≤ i ∧ i + 5 ≤ L) (hL : L ≤ 2560) (h : LK K M) (hn : 55 ≤ n ∧ n < 50000) (hcs : cells + 3 ≤ 600000 ∧ slots + 25 ≤ 7302250) (kk : ∀ (n' : Nat) (K' : KK) (M' : MM) (H1 : Heap) (locs1 : List Loc), LK K' M' → n' ≤ n + 3 → 55 ≤ n' → HR G n' K' M' H1 → va_S (mw_own G) s.heap H1 locs1 → W p G.1 e room_1 s m #[Value.ref b] below meth c H1 locs1 (cells + 3) (slots + 25) Zw (F0 m 1425 ls [])) : W p G.1 e room_1 s m #[Value.ref b] below meth c H locs cells slots Zw (F0 m 1006 ls []) :=
  law_case (av := [(0, xv xs (i + 1))]) cx hr hs hl hi hL h.wf hcs rfl dec_1006 (c_X11_bent h) (fun n1 K1 M1 h1 => c_X12_bent h1.1) (sem_c_bent h hn.1) (by decide) ww_X11_bent ww_X12_bent rfl rfl ⟨⟨by decide, by decide⟩, by decide, by decide⟩ kk
theorem law_1029 (cx : LX G p s m b L xs c) (hr : HR G n K M H) (hs : va_S (mw_own G) s.heap H locs) {i : Int} (hl : lv_has ls 4 (LLv b G.2.2.2 i)) (hi : 0 ≤ i ∧ i + 5 ≤ L) (hL : L ≤ 2560) (h : LK K M) (hn : 55 ≤ n ∧ n < 50000) (hcs : cells + 3 ≤ 600000 ∧ slots + 25 ≤ 7302250) (kk : ∀ (n' : Nat) (K' : KK) (M' : MM) (H1 : Heap) (locs1 : List Loc), LK K' M' → n' ≤ n + 3 → 55 ≤ n' → HR G n' K' M' H1 → va_S (mw_own G) s.heap H1 locs1 → W p G.1 e room_1 s m #[Value.ref b] below meth c H1 locs1 (cells + 3) (slots + 25) Zw (F0 m 1425 ls [])) : W p G.1 e room_1 s m #[Value.ref b] below meth c H locs cells slots Zw (F0 m 1029 ls []) :=
  law_case (av := [(0, xv xs (i + 1)), (0, xv xs (i + 2)), (0, xv xs (i + 3))]) cx hr hs hl hi hL h.wf hcs rfl dec_1029 (c_X11_same h) (fun n1 K1 M1 h1 => c_X12_same h1.1) (sem_c_same h hn.1) (by decide) ww_X11_same ww_X12_same rfl rfl ⟨⟨by decide, by decide⟩, by decide, by decide⟩ kk
theorem law_1072 (cx : LX G p s m b L xs c) (hr : HR G n K M H) (hs : va_S (mw_own G) s.heap H locs) {i : Int} (hl : lv_has ls 4 (LLv b G.2.2.2 i)) (hi : 0 ≤ i ∧ i + 5 ≤ L) (hL : L ≤ 2560) (h : LK K M) (hn : 55 ≤ n ∧ n < 50000) (hcs : cells + 3 ≤ 600000 ∧ slots + 25 ≤ 7302250) (kk : ∀ (n' : Nat) (K' : KK) (M' : MM) (H1 : Heap) (locs1 : List Loc), LK K' M' → n' ≤ n + 3 → 55 ≤ n' → HR G n' K' M' H1 → va_S (mw_own G) s.heap H1 locs1 → W p G.1 e room_1 s m #[Value.ref b] below meth c H1 locs1 (cells + 3) (slots + 25) Zw (F0 m 1425 ls [])) : W p G.1 e room_1 s m #[Value.ref b] below meth c H locs cells slots Zw (F0 m 1072 ls []) :=
  law_case (av := [(0, xv xs (i + 1)), (0, xv xs (i + 2))]) cx hr hs hl hi hL h.wf hcs rfl dec_1072 (c_X11_lay h) (fun n1 K1 M1 h1 => c_X12_lay h1.1 h1.2.2.1) (sem_c_lay h hn.1) (by decide) ww_X11_lay ww_X12_lay rfl rfl ⟨⟨by decide, by decide⟩, by decide, by decide⟩ kk
theorem law_1105 (cx : LX G p s m b L xs c) (hr : HR G n K M H) (hs : va_S (mw_own G) s.heap H locs) {i : Int} (hl : lv_has ls 4 (LLv b G.2.2.2 i)) (hi : 0 ≤ i ∧ i + 5 ≤ L) (hL : L ≤ 2560) (h : LK K M) (hn : 55 ≤ n ∧ n < 50000) (hcs : cells + 3 ≤ 600000 ∧ slots + 25 ≤ 7302250) (kk : ∀ (n' : Nat) (K' : KK) (M' : MM) (H1 : Heap) (locs1 : List Loc), LK K' M' → n' ≤ n + 3 → 55 ≤ n' → HR G n' K' M' H1 → va_S (mw_own G) s.heap H1 locs1 → W p G.1 e room_1 s m #[Value.ref b] below meth c H1 locs1 (cells + 3) (slots + 25) Zw (F0 m 1425 ls [])) : W p G.1 e room_1 s m #[Value.ref b] below meth c H locs cells slots Zw (F0 m 1105 ls []) :=
  law_case (av := []) cx hr hs hl hi hL h.wf hcs rfl dec_1105 (c_X11_clear h) (fun n1 K1 M1 h1 => c_X12_clear h1.1.1) (sem_c_clear h hn.1) (by decide) ww_X11_clear ww_X12_clear rfl rfl ⟨⟨by decide, by decide⟩, by decide, by decide⟩ kk
theorem law_1118 (cx : LX G p s m b L xs c) (hr : HR G n K M H) (hs : va_S (mw_own G) s.heap H locs) {i : Int} (hl : lv_has ls 4 (LLv b G.2.2.2 i)) (hi : 0 ≤ i ∧ i + 5 ≤ L) (hL : L ≤ 2560) (h : LK K M) (hn : 55 ≤ n ∧ n < 50000) (hcs : cells + 3 ≤ 600000 ∧ slots + 25 ≤ 7302250) (kk : ∀ (n' : Nat) (K' : KK) (M' : MM) (H1 : Heap) (locs1 : List Loc), LK K' M' → n' ≤ n + 3 → 55 ≤ n' → HR G n' K' M' H1 → va_S (mw_own G) s.heap H1 locs1 → W p G.1 e room_1 s m #[Value.ref b] below meth c H1 locs1 (cells + 3) (slots + 25) Zw (F0 m 1425 ls [])) : W p G.1 e room_1 s m #[Value.ref b] below meth c H locs cells slots Zw (F0 m 1118 ls []) :=
  law_case (av := [(0, xv xs (i + 1))]) cx hr hs hl hi hL h.wf hcs rfl dec_1118 (c_X11_hand h) (fun n1 K1 M1 h1 => c_X12_hand h1.1 h1.2.2.1) (sem_c_hand h hn.1) (by decide) ww_X11_hand ww_X12_hand rfl rfl ⟨⟨by decide, by decide⟩, by decide, by decide⟩ kk
theorem law_1141 (cx : LX G p s m b L xs c) (hr : HR G n K M H) (hs : va_S (mw_own G) s.heap H locs) {i : Int} (hl : lv_has ls 4 (LLv b G.2.2.2 i)) (hi : 0 ≤ i ∧ i + 5 ≤ L) (hL : L ≤ 2560) (h : LK K M) (hn : 55 ≤ n ∧ n < 50000) (hcs : cells + 3 ≤ 600000 ∧ slots + 25 ≤ 7302250) (kk : ∀ (n' : Nat) (K' : KK) (M' : MM) (H1 : Heap) (locs1 : List Loc), LK K' M' → n' ≤ n + 3 → 55 ≤ n' → HR G n' K' M' H1 → va_S (mw_own G) s.heap H1 locs1 → W p G.1 e room_1 s m #[Value.ref b] below meth c H1 locs1 (cells + 3) (slots + 25) Zw (F0 m 1425 ls [])) : W p G.1 e room_1 s m #[Value.ref b] below meth c H locs cells slots Zw (F0 m 1141 ls []) :=
  law_case (av := [(0, xv xs (i + 1))]) cx hr hs hl hi hL h.wf hcs rfl dec_1141 (c_X11_unlike h) (fun n1 K1 M1 h1 => c_X12_unlike h1.1 h1.2.2.1) (sem_c_unlike h hn.1) (by decide) ww_X11_unlike ww_X12_unlike rfl rfl ⟨⟨by decide, by decide⟩, by decide, by decide⟩ kk
theorem law_1164 (cx : LX G p s m b L xs c) (hr : HR G n K M H) (hs : va_S (mw_own G) s.heap H locs) {i : Int} (hl : lv_has ls 4 (LLv b G.2.2.2 i)) (hi : 0 ≤ i ∧ i + 5 ≤ L) (hL : L ≤ 2560) (h : LK K M) (hn : 55 ≤ n ∧ n < 50000) (hcs : cells + 3 ≤ 600000 ∧ slots + 25 ≤ 7302250) (kk : ∀ (n' : Nat) (K' : KK) (M' : MM) (H1 : Heap) (locs1 : List Loc), LK K' M' → n' ≤ n + 3 → 55 ≤ n' → HR G n' K' M' H1 → va_S (mw_own G) s.heap H1 locs1 → W p G.1 e room_1 s m #[Value.ref b] below meth c H1 locs1 (cells + 3) (slots + 25) Zw (F0 m 1425 ls [])) : W p G.1 e room_1 s m #[Value.ref b] below meth c H locs cells slots Zw (F0 m 1164 ls []) :=
  law_case (av := [(0, xv xs (i + 1)), (0, xv xs (i + 2)), (0, xv xs (i + 3))]) cx hr hs hl hi hL h.wf hcs rfl dec_1164 (c_X11_act h) (fun n1 K1 M1 h1 => c_X12_act h1.1) (sem_c_act h hn.1) (by decide) ww_X11_act ww_X12_act rfl rfl ⟨⟨by decide, by decide⟩, by decide, by decide⟩ kk
theorem law_1207 (cx : LX G p s m b L xs c) (hr : HR G n K M H) (hs : va_S (mw_own G) s.heap H locs) {i : Int} (hl : lv_has ls 4 (LLv b G.2.2.2 i)) (hi : 0 ≤ i ∧ i + 5 ≤ L) (hL : L ≤ 2560) (h : LK K M) (hn : 55 ≤ n ∧ n < 50000) (hcs : cells + 3 ≤ 600000 ∧ slots + 25 ≤ 7302250) (kk : ∀ (n' : Nat) (K' : KK) (M' : MM) (H1 : Heap) (locs1 : List Loc), LK K' M' → n' ≤ n + 3 → 55 ≤ n' → HR G n' K' M' H1 → va_S (mw_own G) s.heap H1 locs1 → W p G.1 e room_1 s m #[Value.ref b] below meth c H1 locs1 (cells + 3) (slots + 25) Zw (F0 m 1425 ls [])) : W p G.1 e room_1 s m #[Value.ref b] below meth c H locs cells slots Zw (F0 m 1207 ls []) :=
  law_case (av := [(0, xv xs (i + 1))]) cx hr hs hl hi hL h.wf hcs rfl dec_1207 (c_X11_trace h) (fun n1 K1 M1 h1 => c_X12_trace h1.1.1 h1.2.2.2.2.2.2.2) (sem_c_trace h hn.1) (by decide) ww_X11_trace ww_X12_trace rfl rfl ⟨⟨by decide, by decide⟩, by decide, by decide⟩ kk
theorem law_1230 (cx : LX G p s m b L xs c) (hr : HR G n K M H) (hs : va_S (mw_own G) s.heap H locs) {i : Int} (hl : lv_has ls 4 (LLv b G.2.2.2 i)) (hi : 0 ≤ i ∧ i + 5 ≤ L) (hL : L ≤ 2560) (h : LK K M) (hn : 55 ≤ n ∧ n < 50000) (hcs : cells + 3 ≤ 600000 ∧ slots + 25 ≤ 7302250) (kk : ∀ (n' : Nat) (K' : KK) (M' : MM) (H1 : Heap) (locs1 : List Loc), LK K' M' → n' ≤ n + 3 → 55 ≤ n' → HR G n' K' M' H1 → va_S (mw_own G) s.heap H1 locs1 → W p G.1 e room_1 s m #[Value.ref b] below meth c H1 locs1 (cells + 3) (slots + 25) Zw (F0 m 1425 ls [])) : W p G.1 e room_1 s m #[Value.ref b] below meth c H locs cells slots Zw (F0 m 1230 ls []) :=
  law_case (av := [(0, xv xs (i + 1)), (0, xv xs (i + 2)), (0, xv xs (i + 3))]) cx hr hs hl hi hL h.wf hcs rfl dec_1230 (c_X11_sheet h) (fun n1 K1 M1 h1 => c_X12_sheet h1.1.1) (sem_c_sheet h hn.1) (by decide) ww_X11_sheet ww_X12_sheet rfl rfl ⟨⟨by decide, by decide⟩, by decide, by decide⟩ kk
theorem law_1273 (cx : LX G p s m b L xs c) (hr : HR G n K M H) (hs : va_S (mw_own G) s.heap H locs) {i : Int} (hl : lv_has ls 4 (LLv b G.2.2.2 i)) (hi : 0 ≤ i ∧ i + 5 ≤ L) (hL : L ≤ 2560) (h : LK K M) (hn : 55 ≤ n ∧ n < 50000) (hcs : cells + 3 ≤ 600000 ∧ slots + 25 ≤ 7302250) (kk : ∀ (n' : Nat) (K' : KK) (M' : MM) (H1 : Heap) (locs1 : List Loc), LK K' M' → n' ≤ n + 3 → 55 ≤ n' → HR G n' K' M' H1 → va_S (mw_own G) s.heap H1 locs1 → W p G.1 e room_1 s m #[Value.ref b] below meth c H1 locs1 (cells + 3) (slots + 25) Zw (F0 m 1425 ls [])) : W p G.1 e room_1 s m #[Value.ref b] below meth c H locs cells slots Zw (F0 m 1273 ls []) :=
  law_case (av := [(0, xv xs (i + 1)), (0, xv xs (i + 2)), (0, xv xs (i + 3))]) cx hr hs hl hi hL h.wf hcs rfl dec_1273 (c_X11_cell h) (fun n1 K1 M1 h1 => c_X12_cell h1.1.1 h1.2.2.2.1) (sem_c_cell h hn.1) (by decide) ww_X11_cell ww_X12_cell rfl rfl ⟨⟨by decide, by decide⟩, by decide, by decide⟩ kk
theorem law_1316 (cx : LX G p s m b L xs c) (hr : HR G n K M H) (hs : va_S (mw_own G) s.heap H locs) {i : Int} (hl : lv_has ls 4 (LLv b G.2.2.2 i)) (hi : 0 ≤ i ∧ i + 5 ≤ L) (hL : L ≤ 2560) (h : LK K M) (hn : 55 ≤ n ∧ n < 50000) (hcs : cells + 3 ≤ 600000 ∧ slots + 25 ≤ 7302250) (kk : ∀ (n' : Nat) (K' : KK) (M' : MM) (H1 : Heap) (locs1 : List Loc), LK K' M' → n' ≤ n + 3 → 55 ≤ n' → HR G n' K' M' H1 → va_S (mw_own G) s.heap H1 locs1 → W p G.1 e room_1 s m #[Value.ref b] below meth c H1 locs1 (cells + 3) (slots + 25) Zw (F0 m 1425 ls [])) : W p G.1 e room_1 s m #[Value.ref b] below meth c H locs cells slots Zw (F0 m 1316 ls []) :=
  law_case (av := [(0, xv xs (i + 1)), (0, xv xs (i + 2)), (0, xv xs (i + 3)), (0, xv xs (i + 4))]) cx hr hs hl hi hL h.wf hcs rfl dec_1316 (c_X11_pairs h) (fun n1 K1 M1 h1 => c_X12_pairs h1.1 h1.2.2.2.1) (sem_c_pairs h hn.1) (by decide) ww_X11_pairs ww_X12_pairs rfl rfl ⟨⟨by decide, by decide⟩, by decide, by decide⟩ kk
theorem law_1369 (cx : LX G p s m b L xs c) (hr : HR G n K M H) (hs : va_S (mw_own G) s.heap H locs) {i : Int} (hl : lv_has ls 4 (LLv b G.2.2.2 i)) (hi : 0 ≤ i ∧ i + 5 ≤ L) (hL : L ≤ 2560) (h : LK K M) (hn : 55 ≤ n ∧ n < 50000) (hcs : cells + 3 ≤ 600000 ∧ slots + 25 ≤ 7302250) (kk : ∀ (n' : Nat) (K' : KK) (M' : MM) (H1 : Heap) (locs1 : List Loc), LK K' M' → n' ≤ n + 3 → 55 ≤ n' → HR G n' K' M' H1 → va_S (mw_own G) s.heap H1 locs1 → W p G.1 e room_1 s m #[Value.ref b] below meth c H1 locs1 (cells + 3) (slots + 25) Zw (F0 m 1425 ls [])) : W p G.1 e room_1 s m #[Value.ref b] below meth c H locs cells slots Zw (F0 m 1369 ls []) :=
  law_case (av := [(0, xv xs (i + 1)), (0, xv xs (i + 2)), (0, xv xs (i + 3))]) cx hr hs hl hi hL h.wf hcs rfl dec_1369 (c_X11_forge h) (fun n1 K1 M1 h1 => c_X12_forge h1.1 h1.2.2.2.1 h1.2.2.2.2.1) (sem_c_forge h hn.1) (by decide) ww_X11_forge ww_X12_forge rfl rfl ⟨⟨by decide, by decide⟩, by decide, by decide⟩ kk
theorem law_1412 (cx : LX G p s m b L xs c) (hr : HR G n K M H) (hs : va_S (mw_own G) s.heap H locs) {i : Int} (hl : lv_has ls 4 (LLv b G.2.2.2 i)) (hi : 0 ≤ i ∧ i + 5 ≤ L) (hL : L ≤ 2560) (h : LK K M) (hn : 55 ≤ n ∧ n < 50000) (hcs : cells + 3 ≤ 600000 ∧ slots + 25 ≤ 7302250) (kk : ∀ (n' : Nat) (K' : KK) (M' : MM) (H1 : Heap) (locs1 : List Loc), LK K' M' → n' ≤ n + 3 → 55 ≤ n' → HR G n' K' M' H1 → va_S (mw_own G) s.heap H1 locs1 → W p G.1 e room_1 s m #[Value.ref b] below meth c H1 locs1 (cells + 3) (slots + 25) Zw (F0 m 1425 ls [])) : W p G.1 e room_1 s m #[Value.ref b] below meth c H locs cells slots Zw (F0 m 1412 ls []) :=
  law_case (av := []) cx hr hs hl hi hL h.wf hcs rfl dec_1412 (c_X11_status h.wf) (fun n1 K1 M1 h1 => c_X12_status h1.1.1) (sem_c_status h hn.1) (by decide) ww_X11_status ww_X12_status rfl rfl ⟨⟨by decide, by decide⟩, by decide, by decide⟩ kk
end CASES
