/-! ===== the law's cases ===== -/
set_option maxRecDepth 100000 in
theorem v259 : (Jvm.Cond.code ({ cls := "HalfOrders", name := "order", desc := "(I)I" } : Jvm.MethodName) prog_1_method_2_code (2 : Nat) (Option.some Jvm.ClassFile.FieldType.int)) ∈ mw_tbl := mwt_1 175 rfl rfl
set_option maxRecDepth 100000 in
theorem v256 : (Jvm.Cond.methodLink "HalfOrdersLaw" (13 : Nat) ({ cls := "HalfOrders", name := "order", desc := "(I)I" } : Jvm.MethodName)) ∈ mw_tbl := mwt_1 172 rfl rfl
set_option maxRecDepth 100000 in
theorem v85 : (Jvm.Cond.initialized "HalfOrders") ∈ mw_tbl := mwt_1 1 rfl rfl
set_option maxRecDepth 100000 in
theorem v257 : (Jvm.Cond.instanceMethod ({ cls := "HalfOrders", name := "order", desc := "(I)I" } : Jvm.MethodName)) ∈ mw_tbl := mwt_1 173 rfl rfl
set_option maxRecDepth 100000 in
theorem v258 : (Jvm.Cond.selects "HalfOrders" ({ cls := "HalfOrders", name := "order", desc := "(I)I" } : Jvm.MethodName) ({ cls := "HalfOrders", name := "order", desc := "(I)I" } : Jvm.MethodName)) ∈ mw_tbl := mwt_1 174 rfl rfl
theorem ww_X11_order : WW mi_X11_order 13 1 := ⟨v259, v256, v85, v257, v258, ⟨by decide, by decide, by decide +kernel⟩, by decide⟩
set_option maxRecDepth 100000 in
theorem v1210 : (Jvm.Cond.code ({ cls := "HalfOrdersModel", name := "order", desc := "(I)I" } : Jvm.MethodName) prog_14_method_13_code (2 : Nat) (Option.some Jvm.ClassFile.FieldType.int)) ∈ mw_tbl := mwt_5 166 rfl rfl
set_option maxRecDepth 100000 in
theorem v1207 : (Jvm.Cond.methodLink "HalfOrdersLaw" (17 : Nat) ({ cls := "HalfOrdersModel", name := "order", desc := "(I)I" } : Jvm.MethodName)) ∈ mw_tbl := mwt_5 163 rfl rfl
set_option maxRecDepth 100000 in
theorem v92 : (Jvm.Cond.initialized "HalfOrdersModel") ∈ mw_tbl := mwt_1 8 rfl rfl
set_option maxRecDepth 100000 in
theorem v1208 : (Jvm.Cond.instanceMethod ({ cls := "HalfOrdersModel", name := "order", desc := "(I)I" } : Jvm.MethodName)) ∈ mw_tbl := mwt_5 164 rfl rfl
set_option maxRecDepth 100000 in
theorem v1209 : (Jvm.Cond.selects "HalfOrdersModel" ({ cls := "HalfOrdersModel", name := "order", desc := "(I)I" } : Jvm.MethodName) ({ cls := "HalfOrdersModel", name := "order", desc := "(I)I" } : Jvm.MethodName)) ∈ mw_tbl := mwt_5 165 rfl rfl
theorem ww_X12_order : WW mi_X12_order 17 1 := ⟨v1210, v1207, v92, v1208, v1209, ⟨by decide, by decide, by decide +kernel⟩, by decide⟩
def TL_200 : List (Nat × Instr × Nat) := [(200, .aload_n 1, 1), (201, .aload_n 0, 1), (202, .iload_n 3, 1), (203, .iconst 1, 1), (204, .iadd, 1), (205, .iaload, 1), (206, .invokevirtual 13, 3), (209, .aload_n 2, 1), (210, .aload_n 0, 1), (211, .iload_n 3, 1), (212, .iconst 1, 1), (213, .iadd, 1), (214, .iaload, 1), (215, .invokevirtual 17, 3), (218, .if_icmp .eq 1207, 3), (221, .iconst 0, 1)]
set_option maxRecDepth 100000 in
theorem dtl_200 : ∀ q ∈ TL_200, decode code q.1 = .ok q.2 := by decide +kernel
set_option maxRecDepth 100000 in
theorem ad_201 : argD 201 1 := fun t ht => by
    have hh : t = 0 := by omega
    rcases hh with rfl
    · exact ⟨dtk dtl_200 1 (201, .aload_n 0, 1) rfl, dtk dtl_200 2 (202, .iload_n 3, 1) rfl, dtk dtl_200 3 (203, .iconst 1, 1) rfl, dtk dtl_200 4 (204, .iadd, 1) rfl, dtk dtl_200 5 (205, .iaload, 1) rfl⟩
set_option maxRecDepth 100000 in
theorem ad_210 : argD 210 1 := fun t ht => by
    have hh : t = 0 := by omega
    rcases hh with rfl
    · exact ⟨dtk dtl_200 8 (210, .aload_n 0, 1) rfl, dtk dtl_200 9 (211, .iload_n 3, 1) rfl, dtk dtl_200 10 (212, .iconst 1, 1) rfl, dtk dtl_200 11 (213, .iadd, 1) rfl, dtk dtl_200 12 (214, .iaload, 1) rfl⟩
set_option maxRecDepth 100000 in
theorem dec_200 : caseD 200 1 13 17 1207 := ⟨dtk dtl_200 0 (200, .aload_n 1, 1) rfl, ad_201, dtk dtl_200 6 (206, .invokevirtual 13, 3) rfl, dtk dtl_200 7 (209, .aload_n 2, 1) rfl, ad_210, dtk dtl_200 13 (215, .invokevirtual 17, 3) rfl, dtk dtl_200 14 (218, .if_icmp .eq 1207, 3) rfl, by decide⟩
set_option maxRecDepth 100000 in
theorem v318 : (Jvm.Cond.code ({ cls := "HalfOrders", name := "pair", desc := "(III)I" } : Jvm.MethodName) prog_1_method_3_code (5 : Nat) (Option.some Jvm.ClassFile.FieldType.int)) ∈ mw_tbl := mwt_1 234 rfl rfl
set_option maxRecDepth 100000 in
theorem v315 : (Jvm.Cond.methodLink "HalfOrdersLaw" (18 : Nat) ({ cls := "HalfOrders", name := "pair", desc := "(III)I" } : Jvm.MethodName)) ∈ mw_tbl := mwt_1 231 rfl rfl
set_option maxRecDepth 100000 in
theorem v316 : (Jvm.Cond.instanceMethod ({ cls := "HalfOrders", name := "pair", desc := "(III)I" } : Jvm.MethodName)) ∈ mw_tbl := mwt_1 232 rfl rfl
set_option maxRecDepth 100000 in
theorem v317 : (Jvm.Cond.selects "HalfOrders" ({ cls := "HalfOrders", name := "pair", desc := "(III)I" } : Jvm.MethodName) ({ cls := "HalfOrders", name := "pair", desc := "(III)I" } : Jvm.MethodName)) ∈ mw_tbl := mwt_1 233 rfl rfl
theorem ww_X11_pair : WW mi_X11_pair 18 3 := ⟨v318, v315, v85, v316, v317, ⟨by decide, by decide, by decide +kernel⟩, by decide⟩
set_option maxRecDepth 100000 in
theorem v1229 : (Jvm.Cond.code ({ cls := "HalfOrdersModel", name := "pair", desc := "(III)I" } : Jvm.MethodName) prog_14_method_16_code (5 : Nat) (Option.some Jvm.ClassFile.FieldType.int)) ∈ mw_tbl := mwt_5 185 rfl rfl
set_option maxRecDepth 100000 in
theorem v1226 : (Jvm.Cond.methodLink "HalfOrdersLaw" (22 : Nat) ({ cls := "HalfOrdersModel", name := "pair", desc := "(III)I" } : Jvm.MethodName)) ∈ mw_tbl := mwt_5 182 rfl rfl
set_option maxRecDepth 100000 in
theorem v1227 : (Jvm.Cond.instanceMethod ({ cls := "HalfOrdersModel", name := "pair", desc := "(III)I" } : Jvm.MethodName)) ∈ mw_tbl := mwt_5 183 rfl rfl
set_option maxRecDepth 100000 in
theorem v1228 : (Jvm.Cond.selects "HalfOrdersModel" ({ cls := "HalfOrdersModel", name := "pair", desc := "(III)I" } : Jvm.MethodName) ({ cls := "HalfOrdersModel", name := "pair", desc := "(III)I" } : Jvm.MethodName)) ∈ mw_tbl := mwt_5 184 rfl rfl
theorem ww_X12_pair : WW mi_X12_pair 22 3 := ⟨v1229, v1226, v92, v1227, v1228, ⟨by decide, by decide, by decide +kernel⟩, by decide⟩
def TL_223 : List (Nat × Instr × Nat) := [(223, .aload_n 1, 1), (224, .aload_n 0, 1), (225, .iload_n 3, 1), (226, .iconst 1, 1), (227, .iadd, 1), (228, .iaload, 1), (229, .aload_n 0, 1), (230, .iload_n 3, 1), (231, .iconst 2, 1), (232, .iadd, 1), (233, .iaload, 1), (234, .aload_n 0, 1), (235, .iload_n 3, 1), (236, .iconst 3, 1), (237, .iadd, 1), (238, .iaload, 1), (239, .invokevirtual 18, 3), (242, .aload_n 2, 1), (243, .aload_n 0, 1), (244, .iload_n 3, 1), (245, .iconst 1, 1), (246, .iadd, 1), (247, .iaload, 1), (248, .aload_n 0, 1), (249, .iload_n 3, 1), (250, .iconst 2, 1), (251, .iadd, 1), (252, .iaload, 1), (253, .aload_n 0, 1), (254, .iload_n 3, 1), (255, .iconst 3, 1), (256, .iadd, 1), (257, .iaload, 1), (258, .invokevirtual 22, 3), (261, .if_icmp .eq 1164, 3), (264, .iconst 0, 1)]
set_option maxRecDepth 100000 in
theorem dtl_223 : ∀ q ∈ TL_223, decode code q.1 = .ok q.2 := by decide +kernel
set_option maxRecDepth 100000 in
theorem ad_224 : argD 224 3 := fun t ht => by
    have hh : t = 0 ∨ t = 1 ∨ t = 2 := by omega
    rcases hh with rfl | rfl | rfl
    · exact ⟨dtk dtl_223 1 (224, .aload_n 0, 1) rfl, dtk dtl_223 2 (225, .iload_n 3, 1) rfl, dtk dtl_223 3 (226, .iconst 1, 1) rfl, dtk dtl_223 4 (227, .iadd, 1) rfl, dtk dtl_223 5 (228, .iaload, 1) rfl⟩
    · exact ⟨dtk dtl_223 6 (229, .aload_n 0, 1) rfl, dtk dtl_223 7 (230, .iload_n 3, 1) rfl, dtk dtl_223 8 (231, .iconst 2, 1) rfl, dtk dtl_223 9 (232, .iadd, 1) rfl, dtk dtl_223 10 (233, .iaload, 1) rfl⟩
    · exact ⟨dtk dtl_223 11 (234, .aload_n 0, 1) rfl, dtk dtl_223 12 (235, .iload_n 3, 1) rfl, dtk dtl_223 13 (236, .iconst 3, 1) rfl, dtk dtl_223 14 (237, .iadd, 1) rfl, dtk dtl_223 15 (238, .iaload, 1) rfl⟩
set_option maxRecDepth 100000 in
theorem ad_243 : argD 243 3 := fun t ht => by
    have hh : t = 0 ∨ t = 1 ∨ t = 2 := by omega
    rcases hh with rfl | rfl | rfl
    · exact ⟨dtk dtl_223 18 (243, .aload_n 0, 1) rfl, dtk dtl_223 19 (244, .iload_n 3, 1) rfl, dtk dtl_223 20 (245, .iconst 1, 1) rfl, dtk dtl_223 21 (246, .iadd, 1) rfl, dtk dtl_223 22 (247, .iaload, 1) rfl⟩
    · exact ⟨dtk dtl_223 23 (248, .aload_n 0, 1) rfl, dtk dtl_223 24 (249, .iload_n 3, 1) rfl, dtk dtl_223 25 (250, .iconst 2, 1) rfl, dtk dtl_223 26 (251, .iadd, 1) rfl, dtk dtl_223 27 (252, .iaload, 1) rfl⟩
    · exact ⟨dtk dtl_223 28 (253, .aload_n 0, 1) rfl, dtk dtl_223 29 (254, .iload_n 3, 1) rfl, dtk dtl_223 30 (255, .iconst 3, 1) rfl, dtk dtl_223 31 (256, .iadd, 1) rfl, dtk dtl_223 32 (257, .iaload, 1) rfl⟩
set_option maxRecDepth 100000 in
theorem dec_223 : caseD 223 3 18 22 1164 := ⟨dtk dtl_223 0 (223, .aload_n 1, 1) rfl, ad_224, dtk dtl_223 16 (239, .invokevirtual 18, 3) rfl, dtk dtl_223 17 (242, .aload_n 2, 1) rfl, ad_243, dtk dtl_223 33 (258, .invokevirtual 22, 3) rfl, dtk dtl_223 34 (261, .if_icmp .eq 1164, 3) rfl, by decide⟩
set_option maxRecDepth 100000 in
theorem v439 : (Jvm.Cond.code ({ cls := "HalfOrders", name := "round", desc := "(I)I" } : Jvm.MethodName) prog_1_method_4_code (2 : Nat) (Option.some Jvm.ClassFile.FieldType.int)) ∈ mw_tbl := mwt_2 115 rfl rfl
set_option maxRecDepth 100000 in
theorem v436 : (Jvm.Cond.methodLink "HalfOrdersLaw" (23 : Nat) ({ cls := "HalfOrders", name := "round", desc := "(I)I" } : Jvm.MethodName)) ∈ mw_tbl := mwt_2 112 rfl rfl
set_option maxRecDepth 100000 in
theorem v437 : (Jvm.Cond.instanceMethod ({ cls := "HalfOrders", name := "round", desc := "(I)I" } : Jvm.MethodName)) ∈ mw_tbl := mwt_2 113 rfl rfl
set_option maxRecDepth 100000 in
theorem v438 : (Jvm.Cond.selects "HalfOrders" ({ cls := "HalfOrders", name := "round", desc := "(I)I" } : Jvm.MethodName) ({ cls := "HalfOrders", name := "round", desc := "(I)I" } : Jvm.MethodName)) ∈ mw_tbl := mwt_2 114 rfl rfl
theorem ww_X11_round : WW mi_X11_round 23 1 := ⟨v439, v436, v85, v437, v438, ⟨by decide, by decide, by decide +kernel⟩, by decide⟩
set_option maxRecDepth 100000 in
theorem v1260 : (Jvm.Cond.code ({ cls := "HalfOrdersModel", name := "round", desc := "(I)I" } : Jvm.MethodName) prog_14_method_17_code (2 : Nat) (Option.some Jvm.ClassFile.FieldType.int)) ∈ mw_tbl := mwt_5 216 rfl rfl
set_option maxRecDepth 100000 in
theorem v1257 : (Jvm.Cond.methodLink "HalfOrdersLaw" (26 : Nat) ({ cls := "HalfOrdersModel", name := "round", desc := "(I)I" } : Jvm.MethodName)) ∈ mw_tbl := mwt_5 213 rfl rfl
set_option maxRecDepth 100000 in
theorem v1258 : (Jvm.Cond.instanceMethod ({ cls := "HalfOrdersModel", name := "round", desc := "(I)I" } : Jvm.MethodName)) ∈ mw_tbl := mwt_5 214 rfl rfl
set_option maxRecDepth 100000 in
theorem v1259 : (Jvm.Cond.selects "HalfOrdersModel" ({ cls := "HalfOrdersModel", name := "round", desc := "(I)I" } : Jvm.MethodName) ({ cls := "HalfOrdersModel", name := "round", desc := "(I)I" } : Jvm.MethodName)) ∈ mw_tbl := mwt_5 215 rfl rfl
theorem ww_X12_round : WW mi_X12_round 26 1 := ⟨v1260, v1257, v92, v1258, v1259, ⟨by decide, by decide, by decide +kernel⟩, by decide⟩
def TL_266 : List (Nat × Instr × Nat) := [(266, .aload_n 1, 1), (267, .aload_n 0, 1), (268, .iload_n 3, 1), (269, .iconst 1, 1), (270, .iadd, 1), (271, .iaload, 1), (272, .invokevirtual 23, 3), (275, .aload_n 2, 1), (276, .aload_n 0, 1), (277, .iload_n 3, 1), (278, .iconst 1, 1), (279, .iadd, 1), (280, .iaload, 1), (281, .invokevirtual 26, 3), (284, .if_icmp .eq 1141, 3), (287, .iconst 0, 1)]
set_option maxRecDepth 100000 in
theorem dtl_266 : ∀ q ∈ TL_266, decode code q.1 = .ok q.2 := by decide +kernel
set_option maxRecDepth 100000 in
theorem ad_267 : argD 267 1 := fun t ht => by
    have hh : t = 0 := by omega
    rcases hh with rfl
    · exact ⟨dtk dtl_266 1 (267, .aload_n 0, 1) rfl, dtk dtl_266 2 (268, .iload_n 3, 1) rfl, dtk dtl_266 3 (269, .iconst 1, 1) rfl, dtk dtl_266 4 (270, .iadd, 1) rfl, dtk dtl_266 5 (271, .iaload, 1) rfl⟩
set_option maxRecDepth 100000 in
theorem ad_276 : argD 276 1 := fun t ht => by
    have hh : t = 0 := by omega
    rcases hh with rfl
    · exact ⟨dtk dtl_266 8 (276, .aload_n 0, 1) rfl, dtk dtl_266 9 (277, .iload_n 3, 1) rfl, dtk dtl_266 10 (278, .iconst 1, 1) rfl, dtk dtl_266 11 (279, .iadd, 1) rfl, dtk dtl_266 12 (280, .iaload, 1) rfl⟩
set_option maxRecDepth 100000 in
theorem dec_266 : caseD 266 1 23 26 1141 := ⟨dtk dtl_266 0 (266, .aload_n 1, 1) rfl, ad_267, dtk dtl_266 6 (272, .invokevirtual 23, 3) rfl, dtk dtl_266 7 (275, .aload_n 2, 1) rfl, ad_276, dtk dtl_266 13 (281, .invokevirtual 26, 3) rfl, dtk dtl_266 14 (284, .if_icmp .eq 1141, 3) rfl, by decide⟩
set_option maxRecDepth 100000 in
theorem v447 : (Jvm.Cond.code ({ cls := "HalfOrders", name := "stack", desc := "(II)I" } : Jvm.MethodName) prog_1_method_5_code (8 : Nat) (Option.some Jvm.ClassFile.FieldType.int)) ∈ mw_tbl := mwt_2 123 rfl rfl
set_option maxRecDepth 100000 in
theorem v444 : (Jvm.Cond.methodLink "HalfOrdersLaw" (27 : Nat) ({ cls := "HalfOrders", name := "stack", desc := "(II)I" } : Jvm.MethodName)) ∈ mw_tbl := mwt_2 120 rfl rfl
set_option maxRecDepth 100000 in
theorem v445 : (Jvm.Cond.instanceMethod ({ cls := "HalfOrders", name := "stack", desc := "(II)I" } : Jvm.MethodName)) ∈ mw_tbl := mwt_2 121 rfl rfl
set_option maxRecDepth 100000 in
theorem v446 : (Jvm.Cond.selects "HalfOrders" ({ cls := "HalfOrders", name := "stack", desc := "(II)I" } : Jvm.MethodName) ({ cls := "HalfOrders", name := "stack", desc := "(II)I" } : Jvm.MethodName)) ∈ mw_tbl := mwt_2 122 rfl rfl
theorem ww_X11_stack : WW mi_X11_stack 27 2 := ⟨v447, v444, v85, v445, v446, ⟨by decide, by decide, by decide +kernel⟩, by decide⟩
set_option maxRecDepth 100000 in
theorem v1264 : (Jvm.Cond.code ({ cls := "HalfOrdersModel", name := "stack", desc := "(II)I" } : Jvm.MethodName) prog_14_method_19_code (3 : Nat) (Option.some Jvm.ClassFile.FieldType.int)) ∈ mw_tbl := mwt_5 220 rfl rfl
set_option maxRecDepth 100000 in
theorem v1261 : (Jvm.Cond.methodLink "HalfOrdersLaw" (31 : Nat) ({ cls := "HalfOrdersModel", name := "stack", desc := "(II)I" } : Jvm.MethodName)) ∈ mw_tbl := mwt_5 217 rfl rfl
set_option maxRecDepth 100000 in
theorem v1262 : (Jvm.Cond.instanceMethod ({ cls := "HalfOrdersModel", name := "stack", desc := "(II)I" } : Jvm.MethodName)) ∈ mw_tbl := mwt_5 218 rfl rfl
set_option maxRecDepth 100000 in
theorem v1263 : (Jvm.Cond.selects "HalfOrdersModel" ({ cls := "HalfOrdersModel", name := "stack", desc := "(II)I" } : Jvm.MethodName) ({ cls := "HalfOrdersModel", name := "stack", desc := "(II)I" } : Jvm.MethodName)) ∈ mw_tbl := mwt_5 219 rfl rfl
theorem ww_X12_stack : WW mi_X12_stack 31 2 := ⟨v1264, v1261, v92, v1262, v1263, ⟨by decide, by decide, by decide +kernel⟩, by decide⟩
def TL_289 : List (Nat × Instr × Nat) := [(289, .aload_n 1, 1), (290, .aload_n 0, 1), (291, .iload_n 3, 1), (292, .iconst 1, 1), (293, .iadd, 1), (294, .iaload, 1), (295, .aload_n 0, 1), (296, .iload_n 3, 1), (297, .iconst 2, 1), (298, .iadd, 1), (299, .iaload, 1), (300, .invokevirtual 27, 3), (303, .aload_n 2, 1), (304, .aload_n 0, 1), (305, .iload_n 3, 1), (306, .iconst 1, 1), (307, .iadd, 1), (308, .iaload, 1), (309, .aload_n 0, 1), (310, .iload_n 3, 1), (311, .iconst 2, 1), (312, .iadd, 1), (313, .iaload, 1), (314, .invokevirtual 31, 3), (317, .if_icmp .eq 1108, 3), (320, .iconst 0, 1)]
set_option maxRecDepth 100000 in
theorem dtl_289 : ∀ q ∈ TL_289, decode code q.1 = .ok q.2 := by decide +kernel
set_option maxRecDepth 100000 in
theorem ad_290 : argD 290 2 := fun t ht => by
    have hh : t = 0 ∨ t = 1 := by omega
    rcases hh with rfl | rfl
    · exact ⟨dtk dtl_289 1 (290, .aload_n 0, 1) rfl, dtk dtl_289 2 (291, .iload_n 3, 1) rfl, dtk dtl_289 3 (292, .iconst 1, 1) rfl, dtk dtl_289 4 (293, .iadd, 1) rfl, dtk dtl_289 5 (294, .iaload, 1) rfl⟩
    · exact ⟨dtk dtl_289 6 (295, .aload_n 0, 1) rfl, dtk dtl_289 7 (296, .iload_n 3, 1) rfl, dtk dtl_289 8 (297, .iconst 2, 1) rfl, dtk dtl_289 9 (298, .iadd, 1) rfl, dtk dtl_289 10 (299, .iaload, 1) rfl⟩
set_option maxRecDepth 100000 in
theorem ad_304 : argD 304 2 := fun t ht => by
    have hh : t = 0 ∨ t = 1 := by omega
    rcases hh with rfl | rfl
    · exact ⟨dtk dtl_289 13 (304, .aload_n 0, 1) rfl, dtk dtl_289 14 (305, .iload_n 3, 1) rfl, dtk dtl_289 15 (306, .iconst 1, 1) rfl, dtk dtl_289 16 (307, .iadd, 1) rfl, dtk dtl_289 17 (308, .iaload, 1) rfl⟩
    · exact ⟨dtk dtl_289 18 (309, .aload_n 0, 1) rfl, dtk dtl_289 19 (310, .iload_n 3, 1) rfl, dtk dtl_289 20 (311, .iconst 2, 1) rfl, dtk dtl_289 21 (312, .iadd, 1) rfl, dtk dtl_289 22 (313, .iaload, 1) rfl⟩
set_option maxRecDepth 100000 in
theorem dec_289 : caseD 289 2 27 31 1108 := ⟨dtk dtl_289 0 (289, .aload_n 1, 1) rfl, ad_290, dtk dtl_289 11 (300, .invokevirtual 27, 3) rfl, dtk dtl_289 12 (303, .aload_n 2, 1) rfl, ad_304, dtk dtl_289 23 (314, .invokevirtual 31, 3) rfl, dtk dtl_289 24 (317, .if_icmp .eq 1108, 3) rfl, by decide⟩
set_option maxRecDepth 100000 in
theorem v474 : (Jvm.Cond.code ({ cls := "HalfOrders", name := "beside", desc := "(II)I" } : Jvm.MethodName) prog_1_method_6_code (6 : Nat) (Option.some Jvm.ClassFile.FieldType.int)) ∈ mw_tbl := mwt_2 150 rfl rfl
set_option maxRecDepth 100000 in
theorem v471 : (Jvm.Cond.methodLink "HalfOrdersLaw" (32 : Nat) ({ cls := "HalfOrders", name := "beside", desc := "(II)I" } : Jvm.MethodName)) ∈ mw_tbl := mwt_2 147 rfl rfl
set_option maxRecDepth 100000 in
theorem v472 : (Jvm.Cond.instanceMethod ({ cls := "HalfOrders", name := "beside", desc := "(II)I" } : Jvm.MethodName)) ∈ mw_tbl := mwt_2 148 rfl rfl
set_option maxRecDepth 100000 in
theorem v473 : (Jvm.Cond.selects "HalfOrders" ({ cls := "HalfOrders", name := "beside", desc := "(II)I" } : Jvm.MethodName) ({ cls := "HalfOrders", name := "beside", desc := "(II)I" } : Jvm.MethodName)) ∈ mw_tbl := mwt_2 149 rfl rfl
theorem ww_X11_beside : WW mi_X11_beside 32 2 := ⟨v474, v471, v85, v472, v473, ⟨by decide, by decide, by decide +kernel⟩, by decide⟩
set_option maxRecDepth 100000 in
theorem v1272 : (Jvm.Cond.code ({ cls := "HalfOrdersModel", name := "beside", desc := "(II)I" } : Jvm.MethodName) prog_14_method_20_code (3 : Nat) (Option.some Jvm.ClassFile.FieldType.int)) ∈ mw_tbl := mwt_5 228 rfl rfl
set_option maxRecDepth 100000 in
theorem v1269 : (Jvm.Cond.methodLink "HalfOrdersLaw" (35 : Nat) ({ cls := "HalfOrdersModel", name := "beside", desc := "(II)I" } : Jvm.MethodName)) ∈ mw_tbl := mwt_5 225 rfl rfl
set_option maxRecDepth 100000 in
theorem v1270 : (Jvm.Cond.instanceMethod ({ cls := "HalfOrdersModel", name := "beside", desc := "(II)I" } : Jvm.MethodName)) ∈ mw_tbl := mwt_5 226 rfl rfl
set_option maxRecDepth 100000 in
theorem v1271 : (Jvm.Cond.selects "HalfOrdersModel" ({ cls := "HalfOrdersModel", name := "beside", desc := "(II)I" } : Jvm.MethodName) ({ cls := "HalfOrdersModel", name := "beside", desc := "(II)I" } : Jvm.MethodName)) ∈ mw_tbl := mwt_5 227 rfl rfl
theorem ww_X12_beside : WW mi_X12_beside 35 2 := ⟨v1272, v1269, v92, v1270, v1271, ⟨by decide, by decide, by decide +kernel⟩, by decide⟩
def TL_322 : List (Nat × Instr × Nat) := [(322, .aload_n 1, 1), (323, .aload_n 0, 1), (324, .iload_n 3, 1), (325, .iconst 1, 1), (326, .iadd, 1), (327, .iaload, 1), (328, .aload_n 0, 1), (329, .iload_n 3, 1), (330, .iconst 2, 1), (331, .iadd, 1), (332, .iaload, 1), (333, .invokevirtual 32, 3), (336, .aload_n 2, 1), (337, .aload_n 0, 1), (338, .iload_n 3, 1), (339, .iconst 1, 1), (340, .iadd, 1), (341, .iaload, 1), (342, .aload_n 0, 1), (343, .iload_n 3, 1), (344, .iconst 2, 1), (345, .iadd, 1), (346, .iaload, 1), (347, .invokevirtual 35, 3), (350, .if_icmp .eq 1075, 3), (353, .iconst 0, 1)]
set_option maxRecDepth 100000 in
theorem dtl_322 : ∀ q ∈ TL_322, decode code q.1 = .ok q.2 := by decide +kernel
set_option maxRecDepth 100000 in
theorem ad_323 : argD 323 2 := fun t ht => by
    have hh : t = 0 ∨ t = 1 := by omega
    rcases hh with rfl | rfl
    · exact ⟨dtk dtl_322 1 (323, .aload_n 0, 1) rfl, dtk dtl_322 2 (324, .iload_n 3, 1) rfl, dtk dtl_322 3 (325, .iconst 1, 1) rfl, dtk dtl_322 4 (326, .iadd, 1) rfl, dtk dtl_322 5 (327, .iaload, 1) rfl⟩
    · exact ⟨dtk dtl_322 6 (328, .aload_n 0, 1) rfl, dtk dtl_322 7 (329, .iload_n 3, 1) rfl, dtk dtl_322 8 (330, .iconst 2, 1) rfl, dtk dtl_322 9 (331, .iadd, 1) rfl, dtk dtl_322 10 (332, .iaload, 1) rfl⟩
set_option maxRecDepth 100000 in
theorem ad_337 : argD 337 2 := fun t ht => by
    have hh : t = 0 ∨ t = 1 := by omega
    rcases hh with rfl | rfl
    · exact ⟨dtk dtl_322 13 (337, .aload_n 0, 1) rfl, dtk dtl_322 14 (338, .iload_n 3, 1) rfl, dtk dtl_322 15 (339, .iconst 1, 1) rfl, dtk dtl_322 16 (340, .iadd, 1) rfl, dtk dtl_322 17 (341, .iaload, 1) rfl⟩
    · exact ⟨dtk dtl_322 18 (342, .aload_n 0, 1) rfl, dtk dtl_322 19 (343, .iload_n 3, 1) rfl, dtk dtl_322 20 (344, .iconst 2, 1) rfl, dtk dtl_322 21 (345, .iadd, 1) rfl, dtk dtl_322 22 (346, .iaload, 1) rfl⟩
set_option maxRecDepth 100000 in
theorem dec_322 : caseD 322 2 32 35 1075 := ⟨dtk dtl_322 0 (322, .aload_n 1, 1) rfl, ad_323, dtk dtl_322 11 (333, .invokevirtual 32, 3) rfl, dtk dtl_322 12 (336, .aload_n 2, 1) rfl, ad_337, dtk dtl_322 23 (347, .invokevirtual 35, 3) rfl, dtk dtl_322 24 (350, .if_icmp .eq 1075, 3) rfl, by decide⟩
set_option maxRecDepth 100000 in
theorem v490 : (Jvm.Cond.code ({ cls := "HalfOrders", name := "times", desc := "(II)I" } : Jvm.MethodName) prog_1_method_7_code (8 : Nat) (Option.some Jvm.ClassFile.FieldType.int)) ∈ mw_tbl := mwt_2 166 rfl rfl
set_option maxRecDepth 100000 in
theorem v487 : (Jvm.Cond.methodLink "HalfOrdersLaw" (36 : Nat) ({ cls := "HalfOrders", name := "times", desc := "(II)I" } : Jvm.MethodName)) ∈ mw_tbl := mwt_2 163 rfl rfl
set_option maxRecDepth 100000 in
theorem v488 : (Jvm.Cond.instanceMethod ({ cls := "HalfOrders", name := "times", desc := "(II)I" } : Jvm.MethodName)) ∈ mw_tbl := mwt_2 164 rfl rfl
set_option maxRecDepth 100000 in
theorem v489 : (Jvm.Cond.selects "HalfOrders" ({ cls := "HalfOrders", name := "times", desc := "(II)I" } : Jvm.MethodName) ({ cls := "HalfOrders", name := "times", desc := "(II)I" } : Jvm.MethodName)) ∈ mw_tbl := mwt_2 165 rfl rfl
theorem ww_X11_times : WW mi_X11_times 36 2 := ⟨v490, v487, v85, v488, v489, ⟨by decide, by decide, by decide +kernel⟩, by decide⟩
set_option maxRecDepth 100000 in
theorem v1276 : (Jvm.Cond.code ({ cls := "HalfOrdersModel", name := "times", desc := "(II)I" } : Jvm.MethodName) prog_14_method_21_code (9 : Nat) (Option.some Jvm.ClassFile.FieldType.int)) ∈ mw_tbl := mwt_5 232 rfl rfl
set_option maxRecDepth 100000 in
theorem v1273 : (Jvm.Cond.methodLink "HalfOrdersLaw" (39 : Nat) ({ cls := "HalfOrdersModel", name := "times", desc := "(II)I" } : Jvm.MethodName)) ∈ mw_tbl := mwt_5 229 rfl rfl
set_option maxRecDepth 100000 in
theorem v1274 : (Jvm.Cond.instanceMethod ({ cls := "HalfOrdersModel", name := "times", desc := "(II)I" } : Jvm.MethodName)) ∈ mw_tbl := mwt_5 230 rfl rfl
set_option maxRecDepth 100000 in
theorem v1275 : (Jvm.Cond.selects "HalfOrdersModel" ({ cls := "HalfOrdersModel", name := "times", desc := "(II)I" } : Jvm.MethodName) ({ cls := "HalfOrdersModel", name := "times", desc := "(II)I" } : Jvm.MethodName)) ∈ mw_tbl := mwt_5 231 rfl rfl
theorem ww_X12_times : WW mi_X12_times 39 2 := ⟨v1276, v1273, v92, v1274, v1275, ⟨by decide, by decide, by decide +kernel⟩, by decide⟩
def TL_355 : List (Nat × Instr × Nat) := [(355, .aload_n 1, 1), (356, .aload_n 0, 1), (357, .iload_n 3, 1), (358, .iconst 1, 1), (359, .iadd, 1), (360, .iaload, 1), (361, .aload_n 0, 1), (362, .iload_n 3, 1), (363, .iconst 2, 1), (364, .iadd, 1), (365, .iaload, 1), (366, .invokevirtual 36, 3), (369, .aload_n 2, 1), (370, .aload_n 0, 1), (371, .iload_n 3, 1), (372, .iconst 1, 1), (373, .iadd, 1), (374, .iaload, 1), (375, .aload_n 0, 1), (376, .iload_n 3, 1), (377, .iconst 2, 1), (378, .iadd, 1), (379, .iaload, 1), (380, .invokevirtual 39, 3), (383, .if_icmp .eq 1042, 3), (386, .iconst 0, 1)]
set_option maxRecDepth 100000 in
theorem dtl_355 : ∀ q ∈ TL_355, decode code q.1 = .ok q.2 := by decide +kernel
set_option maxRecDepth 100000 in
theorem ad_356 : argD 356 2 := fun t ht => by
    have hh : t = 0 ∨ t = 1 := by omega
    rcases hh with rfl | rfl
    · exact ⟨dtk dtl_355 1 (356, .aload_n 0, 1) rfl, dtk dtl_355 2 (357, .iload_n 3, 1) rfl, dtk dtl_355 3 (358, .iconst 1, 1) rfl, dtk dtl_355 4 (359, .iadd, 1) rfl, dtk dtl_355 5 (360, .iaload, 1) rfl⟩
    · exact ⟨dtk dtl_355 6 (361, .aload_n 0, 1) rfl, dtk dtl_355 7 (362, .iload_n 3, 1) rfl, dtk dtl_355 8 (363, .iconst 2, 1) rfl, dtk dtl_355 9 (364, .iadd, 1) rfl, dtk dtl_355 10 (365, .iaload, 1) rfl⟩
set_option maxRecDepth 100000 in
theorem ad_370 : argD 370 2 := fun t ht => by
    have hh : t = 0 ∨ t = 1 := by omega
    rcases hh with rfl | rfl
    · exact ⟨dtk dtl_355 13 (370, .aload_n 0, 1) rfl, dtk dtl_355 14 (371, .iload_n 3, 1) rfl, dtk dtl_355 15 (372, .iconst 1, 1) rfl, dtk dtl_355 16 (373, .iadd, 1) rfl, dtk dtl_355 17 (374, .iaload, 1) rfl⟩
    · exact ⟨dtk dtl_355 18 (375, .aload_n 0, 1) rfl, dtk dtl_355 19 (376, .iload_n 3, 1) rfl, dtk dtl_355 20 (377, .iconst 2, 1) rfl, dtk dtl_355 21 (378, .iadd, 1) rfl, dtk dtl_355 22 (379, .iaload, 1) rfl⟩
set_option maxRecDepth 100000 in
theorem dec_355 : caseD 355 2 36 39 1042 := ⟨dtk dtl_355 0 (355, .aload_n 1, 1) rfl, ad_356, dtk dtl_355 11 (366, .invokevirtual 36, 3) rfl, dtk dtl_355 12 (369, .aload_n 2, 1) rfl, ad_370, dtk dtl_355 23 (380, .invokevirtual 39, 3) rfl, dtk dtl_355 24 (383, .if_icmp .eq 1042, 3) rfl, by decide⟩
set_option maxRecDepth 100000 in
theorem v509 : (Jvm.Cond.code ({ cls := "HalfOrders", name := "held", desc := "(I)I" } : Jvm.MethodName) prog_1_method_8_code (7 : Nat) (Option.some Jvm.ClassFile.FieldType.int)) ∈ mw_tbl := mwt_2 185 rfl rfl
set_option maxRecDepth 100000 in
theorem v506 : (Jvm.Cond.methodLink "HalfOrdersLaw" (40 : Nat) ({ cls := "HalfOrders", name := "held", desc := "(I)I" } : Jvm.MethodName)) ∈ mw_tbl := mwt_2 182 rfl rfl
set_option maxRecDepth 100000 in
theorem v507 : (Jvm.Cond.instanceMethod ({ cls := "HalfOrders", name := "held", desc := "(I)I" } : Jvm.MethodName)) ∈ mw_tbl := mwt_2 183 rfl rfl
set_option maxRecDepth 100000 in
theorem v508 : (Jvm.Cond.selects "HalfOrders" ({ cls := "HalfOrders", name := "held", desc := "(I)I" } : Jvm.MethodName) ({ cls := "HalfOrders", name := "held", desc := "(I)I" } : Jvm.MethodName)) ∈ mw_tbl := mwt_2 184 rfl rfl
theorem ww_X11_held : WW mi_X11_held 40 1 := ⟨v509, v506, v85, v507, v508, ⟨by decide, by decide, by decide +kernel⟩, by decide⟩
set_option maxRecDepth 100000 in
theorem v1280 : (Jvm.Cond.code ({ cls := "HalfOrdersModel", name := "held", desc := "(I)I" } : Jvm.MethodName) prog_14_method_25_code (6 : Nat) (Option.some Jvm.ClassFile.FieldType.int)) ∈ mw_tbl := mwt_5 236 rfl rfl
set_option maxRecDepth 100000 in
theorem v1277 : (Jvm.Cond.methodLink "HalfOrdersLaw" (43 : Nat) ({ cls := "HalfOrdersModel", name := "held", desc := "(I)I" } : Jvm.MethodName)) ∈ mw_tbl := mwt_5 233 rfl rfl
set_option maxRecDepth 100000 in
theorem v1278 : (Jvm.Cond.instanceMethod ({ cls := "HalfOrdersModel", name := "held", desc := "(I)I" } : Jvm.MethodName)) ∈ mw_tbl := mwt_5 234 rfl rfl
set_option maxRecDepth 100000 in
theorem v1279 : (Jvm.Cond.selects "HalfOrdersModel" ({ cls := "HalfOrdersModel", name := "held", desc := "(I)I" } : Jvm.MethodName) ({ cls := "HalfOrdersModel", name := "held", desc := "(I)I" } : Jvm.MethodName)) ∈ mw_tbl := mwt_5 235 rfl rfl
theorem ww_X12_held : WW mi_X12_held 43 1 := ⟨v1280, v1277, v92, v1278, v1279, ⟨by decide, by decide, by decide +kernel⟩, by decide⟩
def TL_388 : List (Nat × Instr × Nat) := [(388, .aload_n 1, 1), (389, .aload_n 0, 1), (390, .iload_n 3, 1), (391, .iconst 1, 1), (392, .iadd, 1), (393, .iaload, 1), (394, .invokevirtual 40, 3), (397, .aload_n 2, 1), (398, .aload_n 0, 1), (399, .iload_n 3, 1), (400, .iconst 1, 1), (401, .iadd, 1), (402, .iaload, 1), (403, .invokevirtual 43, 3), (406, .if_icmp .eq 1019, 3), (409, .iconst 0, 1)]
set_option maxRecDepth 100000 in
theorem dtl_388 : ∀ q ∈ TL_388, decode code q.1 = .ok q.2 := by decide +kernel
set_option maxRecDepth 100000 in
theorem ad_389 : argD 389 1 := fun t ht => by
    have hh : t = 0 := by omega
    rcases hh with rfl
    · exact ⟨dtk dtl_388 1 (389, .aload_n 0, 1) rfl, dtk dtl_388 2 (390, .iload_n 3, 1) rfl, dtk dtl_388 3 (391, .iconst 1, 1) rfl, dtk dtl_388 4 (392, .iadd, 1) rfl, dtk dtl_388 5 (393, .iaload, 1) rfl⟩
set_option maxRecDepth 100000 in
theorem ad_398 : argD 398 1 := fun t ht => by
    have hh : t = 0 := by omega
    rcases hh with rfl
    · exact ⟨dtk dtl_388 8 (398, .aload_n 0, 1) rfl, dtk dtl_388 9 (399, .iload_n 3, 1) rfl, dtk dtl_388 10 (400, .iconst 1, 1) rfl, dtk dtl_388 11 (401, .iadd, 1) rfl, dtk dtl_388 12 (402, .iaload, 1) rfl⟩
set_option maxRecDepth 100000 in
theorem dec_388 : caseD 388 1 40 43 1019 := ⟨dtk dtl_388 0 (388, .aload_n 1, 1) rfl, ad_389, dtk dtl_388 6 (394, .invokevirtual 40, 3) rfl, dtk dtl_388 7 (397, .aload_n 2, 1) rfl, ad_398, dtk dtl_388 13 (403, .invokevirtual 43, 3) rfl, dtk dtl_388 14 (406, .if_icmp .eq 1019, 3) rfl, by decide⟩
set_option maxRecDepth 100000 in
theorem v560 : (Jvm.Cond.code ({ cls := "HalfOrders", name := "row", desc := "(I)I" } : Jvm.MethodName) prog_1_method_9_code (5 : Nat) (Option.some Jvm.ClassFile.FieldType.int)) ∈ mw_tbl := mwt_2 236 rfl rfl
set_option maxRecDepth 100000 in
theorem v557 : (Jvm.Cond.methodLink "HalfOrdersLaw" (44 : Nat) ({ cls := "HalfOrders", name := "row", desc := "(I)I" } : Jvm.MethodName)) ∈ mw_tbl := mwt_2 233 rfl rfl
set_option maxRecDepth 100000 in
theorem v558 : (Jvm.Cond.instanceMethod ({ cls := "HalfOrders", name := "row", desc := "(I)I" } : Jvm.MethodName)) ∈ mw_tbl := mwt_2 234 rfl rfl
set_option maxRecDepth 100000 in
theorem v559 : (Jvm.Cond.selects "HalfOrders" ({ cls := "HalfOrders", name := "row", desc := "(I)I" } : Jvm.MethodName) ({ cls := "HalfOrders", name := "row", desc := "(I)I" } : Jvm.MethodName)) ∈ mw_tbl := mwt_2 235 rfl rfl
theorem ww_X11_row : WW mi_X11_row 44 1 := ⟨v560, v557, v85, v558, v559, ⟨by decide, by decide, by decide +kernel⟩, by decide⟩
set_option maxRecDepth 100000 in
theorem v1296 : (Jvm.Cond.code ({ cls := "HalfOrdersModel", name := "row", desc := "(I)I" } : Jvm.MethodName) prog_14_method_26_code (4 : Nat) (Option.some Jvm.ClassFile.FieldType.int)) ∈ mw_tbl := mwt_6 12 rfl rfl
set_option maxRecDepth 100000 in
theorem v1293 : (Jvm.Cond.methodLink "HalfOrdersLaw" (47 : Nat) ({ cls := "HalfOrdersModel", name := "row", desc := "(I)I" } : Jvm.MethodName)) ∈ mw_tbl := mwt_6 9 rfl rfl
set_option maxRecDepth 100000 in
theorem v1294 : (Jvm.Cond.instanceMethod ({ cls := "HalfOrdersModel", name := "row", desc := "(I)I" } : Jvm.MethodName)) ∈ mw_tbl := mwt_6 10 rfl rfl
set_option maxRecDepth 100000 in
theorem v1295 : (Jvm.Cond.selects "HalfOrdersModel" ({ cls := "HalfOrdersModel", name := "row", desc := "(I)I" } : Jvm.MethodName) ({ cls := "HalfOrdersModel", name := "row", desc := "(I)I" } : Jvm.MethodName)) ∈ mw_tbl := mwt_6 11 rfl rfl
theorem ww_X12_row : WW mi_X12_row 47 1 := ⟨v1296, v1293, v92, v1294, v1295, ⟨by decide, by decide, by decide +kernel⟩, by decide⟩
def TL_411 : List (Nat × Instr × Nat) := [(411, .aload_n 1, 1), (412, .aload_n 0, 1), (413, .iload_n 3, 1), (414, .iconst 1, 1), (415, .iadd, 1), (416, .iaload, 1), (417, .invokevirtual 44, 3), (420, .aload_n 2, 1), (421, .aload_n 0, 1), (422, .iload_n 3, 1), (423, .iconst 1, 1), (424, .iadd, 1), (425, .iaload, 1), (426, .invokevirtual 47, 3), (429, .if_icmp .eq 996, 3), (432, .iconst 0, 1)]
set_option maxRecDepth 100000 in
theorem dtl_411 : ∀ q ∈ TL_411, decode code q.1 = .ok q.2 := by decide +kernel
set_option maxRecDepth 100000 in
theorem ad_412 : argD 412 1 := fun t ht => by
    have hh : t = 0 := by omega
    rcases hh with rfl
    · exact ⟨dtk dtl_411 1 (412, .aload_n 0, 1) rfl, dtk dtl_411 2 (413, .iload_n 3, 1) rfl, dtk dtl_411 3 (414, .iconst 1, 1) rfl, dtk dtl_411 4 (415, .iadd, 1) rfl, dtk dtl_411 5 (416, .iaload, 1) rfl⟩
set_option maxRecDepth 100000 in
theorem ad_421 : argD 421 1 := fun t ht => by
    have hh : t = 0 := by omega
    rcases hh with rfl
    · exact ⟨dtk dtl_411 8 (421, .aload_n 0, 1) rfl, dtk dtl_411 9 (422, .iload_n 3, 1) rfl, dtk dtl_411 10 (423, .iconst 1, 1) rfl, dtk dtl_411 11 (424, .iadd, 1) rfl, dtk dtl_411 12 (425, .iaload, 1) rfl⟩
set_option maxRecDepth 100000 in
theorem dec_411 : caseD 411 1 44 47 996 := ⟨dtk dtl_411 0 (411, .aload_n 1, 1) rfl, ad_412, dtk dtl_411 6 (417, .invokevirtual 44, 3) rfl, dtk dtl_411 7 (420, .aload_n 2, 1) rfl, ad_421, dtk dtl_411 13 (426, .invokevirtual 47, 3) rfl, dtk dtl_411 14 (429, .if_icmp .eq 996, 3) rfl, by decide⟩
set_option maxRecDepth 100000 in
theorem v576 : (Jvm.Cond.code ({ cls := "HalfOrders", name := "dual", desc := "(I)I" } : Jvm.MethodName) prog_1_method_10_code (6 : Nat) (Option.some Jvm.ClassFile.FieldType.int)) ∈ mw_tbl := mwt_3 12 rfl rfl
set_option maxRecDepth 100000 in
theorem v573 : (Jvm.Cond.methodLink "HalfOrdersLaw" (48 : Nat) ({ cls := "HalfOrders", name := "dual", desc := "(I)I" } : Jvm.MethodName)) ∈ mw_tbl := mwt_3 9 rfl rfl
set_option maxRecDepth 100000 in
theorem v574 : (Jvm.Cond.instanceMethod ({ cls := "HalfOrders", name := "dual", desc := "(I)I" } : Jvm.MethodName)) ∈ mw_tbl := mwt_3 10 rfl rfl
set_option maxRecDepth 100000 in
theorem v575 : (Jvm.Cond.selects "HalfOrders" ({ cls := "HalfOrders", name := "dual", desc := "(I)I" } : Jvm.MethodName) ({ cls := "HalfOrders", name := "dual", desc := "(I)I" } : Jvm.MethodName)) ∈ mw_tbl := mwt_3 11 rfl rfl
theorem ww_X11_dual : WW mi_X11_dual 48 1 := ⟨v576, v573, v85, v574, v575, ⟨by decide, by decide, by decide +kernel⟩, by decide⟩
set_option maxRecDepth 100000 in
theorem v1300 : (Jvm.Cond.code ({ cls := "HalfOrdersModel", name := "dual", desc := "(I)I" } : Jvm.MethodName) prog_14_method_27_code (5 : Nat) (Option.some Jvm.ClassFile.FieldType.int)) ∈ mw_tbl := mwt_6 16 rfl rfl
set_option maxRecDepth 100000 in
theorem v1297 : (Jvm.Cond.methodLink "HalfOrdersLaw" (51 : Nat) ({ cls := "HalfOrdersModel", name := "dual", desc := "(I)I" } : Jvm.MethodName)) ∈ mw_tbl := mwt_6 13 rfl rfl
set_option maxRecDepth 100000 in
theorem v1298 : (Jvm.Cond.instanceMethod ({ cls := "HalfOrdersModel", name := "dual", desc := "(I)I" } : Jvm.MethodName)) ∈ mw_tbl := mwt_6 14 rfl rfl
set_option maxRecDepth 100000 in
theorem v1299 : (Jvm.Cond.selects "HalfOrdersModel" ({ cls := "HalfOrdersModel", name := "dual", desc := "(I)I" } : Jvm.MethodName) ({ cls := "HalfOrdersModel", name := "dual", desc := "(I)I" } : Jvm.MethodName)) ∈ mw_tbl := mwt_6 15 rfl rfl
theorem ww_X12_dual : WW mi_X12_dual 51 1 := ⟨v1300, v1297, v92, v1298, v1299, ⟨by decide, by decide, by decide +kernel⟩, by decide⟩
def TL_434 : List (Nat × Instr × Nat) := [(434, .aload_n 1, 1), (435, .aload_n 0, 1), (436, .iload_n 3, 1), (437, .iconst 1, 1), (438, .iadd, 1), (439, .iaload, 1), (440, .invokevirtual 48, 3), (443, .aload_n 2, 1), (444, .aload_n 0, 1), (445, .iload_n 3, 1), (446, .iconst 1, 1), (447, .iadd, 1), (448, .iaload, 1), (449, .invokevirtual 51, 3), (452, .if_icmp .eq 973, 3), (455, .iconst 0, 1)]
set_option maxRecDepth 100000 in
theorem dtl_434 : ∀ q ∈ TL_434, decode code q.1 = .ok q.2 := by decide +kernel
set_option maxRecDepth 100000 in
theorem ad_435 : argD 435 1 := fun t ht => by
    have hh : t = 0 := by omega
    rcases hh with rfl
    · exact ⟨dtk dtl_434 1 (435, .aload_n 0, 1) rfl, dtk dtl_434 2 (436, .iload_n 3, 1) rfl, dtk dtl_434 3 (437, .iconst 1, 1) rfl, dtk dtl_434 4 (438, .iadd, 1) rfl, dtk dtl_434 5 (439, .iaload, 1) rfl⟩
set_option maxRecDepth 100000 in
theorem ad_444 : argD 444 1 := fun t ht => by
    have hh : t = 0 := by omega
    rcases hh with rfl
    · exact ⟨dtk dtl_434 8 (444, .aload_n 0, 1) rfl, dtk dtl_434 9 (445, .iload_n 3, 1) rfl, dtk dtl_434 10 (446, .iconst 1, 1) rfl, dtk dtl_434 11 (447, .iadd, 1) rfl, dtk dtl_434 12 (448, .iaload, 1) rfl⟩
set_option maxRecDepth 100000 in
theorem dec_434 : caseD 434 1 48 51 973 := ⟨dtk dtl_434 0 (434, .aload_n 1, 1) rfl, ad_435, dtk dtl_434 6 (440, .invokevirtual 48, 3) rfl, dtk dtl_434 7 (443, .aload_n 2, 1) rfl, ad_444, dtk dtl_434 13 (449, .invokevirtual 51, 3) rfl, dtk dtl_434 14 (452, .if_icmp .eq 973, 3) rfl, by decide⟩
set_option maxRecDepth 100000 in
theorem v580 : (Jvm.Cond.code ({ cls := "HalfOrders", name := "part", desc := "(II)I" } : Jvm.MethodName) prog_1_method_11_code (8 : Nat) (Option.some Jvm.ClassFile.FieldType.int)) ∈ mw_tbl := mwt_3 16 rfl rfl
set_option maxRecDepth 100000 in
theorem v577 : (Jvm.Cond.methodLink "HalfOrdersLaw" (52 : Nat) ({ cls := "HalfOrders", name := "part", desc := "(II)I" } : Jvm.MethodName)) ∈ mw_tbl := mwt_3 13 rfl rfl
set_option maxRecDepth 100000 in
theorem v578 : (Jvm.Cond.instanceMethod ({ cls := "HalfOrders", name := "part", desc := "(II)I" } : Jvm.MethodName)) ∈ mw_tbl := mwt_3 14 rfl rfl
set_option maxRecDepth 100000 in
theorem v579 : (Jvm.Cond.selects "HalfOrders" ({ cls := "HalfOrders", name := "part", desc := "(II)I" } : Jvm.MethodName) ({ cls := "HalfOrders", name := "part", desc := "(II)I" } : Jvm.MethodName)) ∈ mw_tbl := mwt_3 15 rfl rfl
theorem ww_X11_part : WW mi_X11_part 52 2 := ⟨v580, v577, v85, v578, v579, ⟨by decide, by decide, by decide +kernel⟩, by decide⟩
set_option maxRecDepth 100000 in
theorem v1304 : (Jvm.Cond.code ({ cls := "HalfOrdersModel", name := "part", desc := "(II)I" } : Jvm.MethodName) prog_14_method_29_code (6 : Nat) (Option.some Jvm.ClassFile.FieldType.int)) ∈ mw_tbl := mwt_6 20 rfl rfl
set_option maxRecDepth 100000 in
theorem v1301 : (Jvm.Cond.methodLink "HalfOrdersLaw" (55 : Nat) ({ cls := "HalfOrdersModel", name := "part", desc := "(II)I" } : Jvm.MethodName)) ∈ mw_tbl := mwt_6 17 rfl rfl
set_option maxRecDepth 100000 in
theorem v1302 : (Jvm.Cond.instanceMethod ({ cls := "HalfOrdersModel", name := "part", desc := "(II)I" } : Jvm.MethodName)) ∈ mw_tbl := mwt_6 18 rfl rfl
set_option maxRecDepth 100000 in
theorem v1303 : (Jvm.Cond.selects "HalfOrdersModel" ({ cls := "HalfOrdersModel", name := "part", desc := "(II)I" } : Jvm.MethodName) ({ cls := "HalfOrdersModel", name := "part", desc := "(II)I" } : Jvm.MethodName)) ∈ mw_tbl := mwt_6 19 rfl rfl
theorem ww_X12_part : WW mi_X12_part 55 2 := ⟨v1304, v1301, v92, v1302, v1303, ⟨by decide, by decide, by decide +kernel⟩, by decide⟩
def TL_457 : List (Nat × Instr × Nat) := [(457, .aload_n 1, 1), (458, .aload_n 0, 1), (459, .iload_n 3, 1), (460, .iconst 1, 1), (461, .iadd, 1), (462, .iaload, 1), (463, .aload_n 0, 1), (464, .iload_n 3, 1), (465, .iconst 2, 1), (466, .iadd, 1), (467, .iaload, 1), (468, .invokevirtual 52, 3), (471, .aload_n 2, 1), (472, .aload_n 0, 1), (473, .iload_n 3, 1), (474, .iconst 1, 1), (475, .iadd, 1), (476, .iaload, 1), (477, .aload_n 0, 1), (478, .iload_n 3, 1), (479, .iconst 2, 1), (480, .iadd, 1), (481, .iaload, 1), (482, .invokevirtual 55, 3), (485, .if_icmp .eq 940, 3), (488, .iconst 0, 1)]
set_option maxRecDepth 100000 in
theorem dtl_457 : ∀ q ∈ TL_457, decode code q.1 = .ok q.2 := by decide +kernel
set_option maxRecDepth 100000 in
theorem ad_458 : argD 458 2 := fun t ht => by
    have hh : t = 0 ∨ t = 1 := by omega
    rcases hh with rfl | rfl
    · exact ⟨dtk dtl_457 1 (458, .aload_n 0, 1) rfl, dtk dtl_457 2 (459, .iload_n 3, 1) rfl, dtk dtl_457 3 (460, .iconst 1, 1) rfl, dtk dtl_457 4 (461, .iadd, 1) rfl, dtk dtl_457 5 (462, .iaload, 1) rfl⟩
    · exact ⟨dtk dtl_457 6 (463, .aload_n 0, 1) rfl, dtk dtl_457 7 (464, .iload_n 3, 1) rfl, dtk dtl_457 8 (465, .iconst 2, 1) rfl, dtk dtl_457 9 (466, .iadd, 1) rfl, dtk dtl_457 10 (467, .iaload, 1) rfl⟩
set_option maxRecDepth 100000 in
theorem ad_472 : argD 472 2 := fun t ht => by
    have hh : t = 0 ∨ t = 1 := by omega
    rcases hh with rfl | rfl
    · exact ⟨dtk dtl_457 13 (472, .aload_n 0, 1) rfl, dtk dtl_457 14 (473, .iload_n 3, 1) rfl, dtk dtl_457 15 (474, .iconst 1, 1) rfl, dtk dtl_457 16 (475, .iadd, 1) rfl, dtk dtl_457 17 (476, .iaload, 1) rfl⟩
    · exact ⟨dtk dtl_457 18 (477, .aload_n 0, 1) rfl, dtk dtl_457 19 (478, .iload_n 3, 1) rfl, dtk dtl_457 20 (479, .iconst 2, 1) rfl, dtk dtl_457 21 (480, .iadd, 1) rfl, dtk dtl_457 22 (481, .iaload, 1) rfl⟩
set_option maxRecDepth 100000 in
theorem dec_457 : caseD 457 2 52 55 940 := ⟨dtk dtl_457 0 (457, .aload_n 1, 1) rfl, ad_458, dtk dtl_457 11 (468, .invokevirtual 52, 3) rfl, dtk dtl_457 12 (471, .aload_n 2, 1) rfl, ad_472, dtk dtl_457 23 (482, .invokevirtual 55, 3) rfl, dtk dtl_457 24 (485, .if_icmp .eq 940, 3) rfl, by decide⟩
set_option maxRecDepth 100000 in
theorem v595 : (Jvm.Cond.code ({ cls := "HalfOrders", name := "drop", desc := "()I" } : Jvm.MethodName) prog_1_method_12_code (1 : Nat) (Option.some Jvm.ClassFile.FieldType.int)) ∈ mw_tbl := mwt_3 31 rfl rfl
set_option maxRecDepth 100000 in
theorem v592 : (Jvm.Cond.methodLink "HalfOrdersLaw" (56 : Nat) ({ cls := "HalfOrders", name := "drop", desc := "()I" } : Jvm.MethodName)) ∈ mw_tbl := mwt_3 28 rfl rfl
set_option maxRecDepth 100000 in
theorem v593 : (Jvm.Cond.instanceMethod ({ cls := "HalfOrders", name := "drop", desc := "()I" } : Jvm.MethodName)) ∈ mw_tbl := mwt_3 29 rfl rfl
set_option maxRecDepth 100000 in
theorem v594 : (Jvm.Cond.selects "HalfOrders" ({ cls := "HalfOrders", name := "drop", desc := "()I" } : Jvm.MethodName) ({ cls := "HalfOrders", name := "drop", desc := "()I" } : Jvm.MethodName)) ∈ mw_tbl := mwt_3 30 rfl rfl
theorem ww_X11_drop : WW mi_X11_drop 56 0 := ⟨v595, v592, v85, v593, v594, ⟨by decide, by decide, by decide +kernel⟩, by decide⟩
set_option maxRecDepth 100000 in
theorem v1314 : (Jvm.Cond.code ({ cls := "HalfOrdersModel", name := "drop", desc := "()I" } : Jvm.MethodName) prog_14_method_30_code (1 : Nat) (Option.some Jvm.ClassFile.FieldType.int)) ∈ mw_tbl := mwt_6 30 rfl rfl
set_option maxRecDepth 100000 in
theorem v1311 : (Jvm.Cond.methodLink "HalfOrdersLaw" (60 : Nat) ({ cls := "HalfOrdersModel", name := "drop", desc := "()I" } : Jvm.MethodName)) ∈ mw_tbl := mwt_6 27 rfl rfl
set_option maxRecDepth 100000 in
theorem v1312 : (Jvm.Cond.instanceMethod ({ cls := "HalfOrdersModel", name := "drop", desc := "()I" } : Jvm.MethodName)) ∈ mw_tbl := mwt_6 28 rfl rfl
set_option maxRecDepth 100000 in
theorem v1313 : (Jvm.Cond.selects "HalfOrdersModel" ({ cls := "HalfOrdersModel", name := "drop", desc := "()I" } : Jvm.MethodName) ({ cls := "HalfOrdersModel", name := "drop", desc := "()I" } : Jvm.MethodName)) ∈ mw_tbl := mwt_6 29 rfl rfl
theorem ww_X12_drop : WW mi_X12_drop 60 0 := ⟨v1314, v1311, v92, v1312, v1313, ⟨by decide, by decide, by decide +kernel⟩, by decide⟩
def TL_490 : List (Nat × Instr × Nat) := [(490, .aload_n 1, 1), (491, .invokevirtual 56, 3), (494, .aload_n 2, 1), (495, .invokevirtual 60, 3), (498, .if_icmp .eq 927, 3), (501, .iconst 0, 1)]
set_option maxRecDepth 100000 in
theorem dtl_490 : ∀ q ∈ TL_490, decode code q.1 = .ok q.2 := by decide +kernel
set_option maxRecDepth 100000 in
theorem ad_491 : argD 491 0 := fun t ht => absurd ht (Nat.not_lt_zero t)
set_option maxRecDepth 100000 in
theorem ad_495 : argD 495 0 := fun t ht => absurd ht (Nat.not_lt_zero t)
set_option maxRecDepth 100000 in
theorem dec_490 : caseD 490 0 56 60 927 := ⟨dtk dtl_490 0 (490, .aload_n 1, 1) rfl, ad_491, dtk dtl_490 1 (491, .invokevirtual 56, 3) rfl, dtk dtl_490 2 (494, .aload_n 2, 1) rfl, ad_495, dtk dtl_490 3 (495, .invokevirtual 60, 3) rfl, dtk dtl_490 4 (498, .if_icmp .eq 927, 3) rfl, by decide⟩
set_option maxRecDepth 100000 in
theorem v603 : (Jvm.Cond.code ({ cls := "HalfOrders", name := "told", desc := "(II)I" } : Jvm.MethodName) prog_1_method_13_code (4 : Nat) (Option.some Jvm.ClassFile.FieldType.int)) ∈ mw_tbl := mwt_3 39 rfl rfl
set_option maxRecDepth 100000 in
theorem v600 : (Jvm.Cond.methodLink "HalfOrdersLaw" (61 : Nat) ({ cls := "HalfOrders", name := "told", desc := "(II)I" } : Jvm.MethodName)) ∈ mw_tbl := mwt_3 36 rfl rfl
set_option maxRecDepth 100000 in
theorem v601 : (Jvm.Cond.instanceMethod ({ cls := "HalfOrders", name := "told", desc := "(II)I" } : Jvm.MethodName)) ∈ mw_tbl := mwt_3 37 rfl rfl
set_option maxRecDepth 100000 in
theorem v602 : (Jvm.Cond.selects "HalfOrders" ({ cls := "HalfOrders", name := "told", desc := "(II)I" } : Jvm.MethodName) ({ cls := "HalfOrders", name := "told", desc := "(II)I" } : Jvm.MethodName)) ∈ mw_tbl := mwt_3 38 rfl rfl
theorem ww_X11_told : WW mi_X11_told 61 2 := ⟨v603, v600, v85, v601, v602, ⟨by decide, by decide, by decide +kernel⟩, by decide⟩
set_option maxRecDepth 100000 in
theorem v1455 : (Jvm.Cond.code ({ cls := "HalfOrdersModel", name := "told", desc := "(II)I" } : Jvm.MethodName) prog_14_method_67_code (3 : Nat) (Option.some Jvm.ClassFile.FieldType.int)) ∈ mw_tbl := mwt_6 171 rfl rfl
set_option maxRecDepth 100000 in
theorem v1452 : (Jvm.Cond.methodLink "HalfOrdersLaw" (64 : Nat) ({ cls := "HalfOrdersModel", name := "told", desc := "(II)I" } : Jvm.MethodName)) ∈ mw_tbl := mwt_6 168 rfl rfl
set_option maxRecDepth 100000 in
theorem v1453 : (Jvm.Cond.instanceMethod ({ cls := "HalfOrdersModel", name := "told", desc := "(II)I" } : Jvm.MethodName)) ∈ mw_tbl := mwt_6 169 rfl rfl
set_option maxRecDepth 100000 in
theorem v1454 : (Jvm.Cond.selects "HalfOrdersModel" ({ cls := "HalfOrdersModel", name := "told", desc := "(II)I" } : Jvm.MethodName) ({ cls := "HalfOrdersModel", name := "told", desc := "(II)I" } : Jvm.MethodName)) ∈ mw_tbl := mwt_6 170 rfl rfl
theorem ww_X12_told : WW mi_X12_told 64 2 := ⟨v1455, v1452, v92, v1453, v1454, ⟨by decide, by decide, by decide +kernel⟩, by decide⟩
def TL_503 : List (Nat × Instr × Nat) := [(503, .aload_n 1, 1), (504, .aload_n 0, 1), (505, .iload_n 3, 1), (506, .iconst 1, 1), (507, .iadd, 1), (508, .iaload, 1), (509, .aload_n 0, 1), (510, .iload_n 3, 1), (511, .iconst 2, 1), (512, .iadd, 1), (513, .iaload, 1), (514, .invokevirtual 61, 3), (517, .aload_n 2, 1), (518, .aload_n 0, 1), (519, .iload_n 3, 1), (520, .iconst 1, 1), (521, .iadd, 1), (522, .iaload, 1), (523, .aload_n 0, 1), (524, .iload_n 3, 1), (525, .iconst 2, 1), (526, .iadd, 1), (527, .iaload, 1), (528, .invokevirtual 64, 3), (531, .if_icmp .eq 894, 3), (534, .iconst 0, 1)]
set_option maxRecDepth 100000 in
theorem dtl_503 : ∀ q ∈ TL_503, decode code q.1 = .ok q.2 := by decide +kernel
set_option maxRecDepth 100000 in
theorem ad_504 : argD 504 2 := fun t ht => by
    have hh : t = 0 ∨ t = 1 := by omega
    rcases hh with rfl | rfl
    · exact ⟨dtk dtl_503 1 (504, .aload_n 0, 1) rfl, dtk dtl_503 2 (505, .iload_n 3, 1) rfl, dtk dtl_503 3 (506, .iconst 1, 1) rfl, dtk dtl_503 4 (507, .iadd, 1) rfl, dtk dtl_503 5 (508, .iaload, 1) rfl⟩
    · exact ⟨dtk dtl_503 6 (509, .aload_n 0, 1) rfl, dtk dtl_503 7 (510, .iload_n 3, 1) rfl, dtk dtl_503 8 (511, .iconst 2, 1) rfl, dtk dtl_503 9 (512, .iadd, 1) rfl, dtk dtl_503 10 (513, .iaload, 1) rfl⟩
set_option maxRecDepth 100000 in
theorem ad_518 : argD 518 2 := fun t ht => by
    have hh : t = 0 ∨ t = 1 := by omega
    rcases hh with rfl | rfl
    · exact ⟨dtk dtl_503 13 (518, .aload_n 0, 1) rfl, dtk dtl_503 14 (519, .iload_n 3, 1) rfl, dtk dtl_503 15 (520, .iconst 1, 1) rfl, dtk dtl_503 16 (521, .iadd, 1) rfl, dtk dtl_503 17 (522, .iaload, 1) rfl⟩
    · exact ⟨dtk dtl_503 18 (523, .aload_n 0, 1) rfl, dtk dtl_503 19 (524, .iload_n 3, 1) rfl, dtk dtl_503 20 (525, .iconst 2, 1) rfl, dtk dtl_503 21 (526, .iadd, 1) rfl, dtk dtl_503 22 (527, .iaload, 1) rfl⟩
set_option maxRecDepth 100000 in
theorem dec_503 : caseD 503 2 61 64 894 := ⟨dtk dtl_503 0 (503, .aload_n 1, 1) rfl, ad_504, dtk dtl_503 11 (514, .invokevirtual 61, 3) rfl, dtk dtl_503 12 (517, .aload_n 2, 1) rfl, ad_518, dtk dtl_503 23 (528, .invokevirtual 64, 3) rfl, dtk dtl_503 24 (531, .if_icmp .eq 894, 3) rfl, by decide⟩
set_option maxRecDepth 100000 in
theorem v737 : (Jvm.Cond.code ({ cls := "HalfOrders", name := "count", desc := "(I)I" } : Jvm.MethodName) prog_1_method_14_code (2 : Nat) (Option.some Jvm.ClassFile.FieldType.int)) ∈ mw_tbl := mwt_3 173 rfl rfl
set_option maxRecDepth 100000 in
theorem v734 : (Jvm.Cond.methodLink "HalfOrdersLaw" (65 : Nat) ({ cls := "HalfOrders", name := "count", desc := "(I)I" } : Jvm.MethodName)) ∈ mw_tbl := mwt_3 170 rfl rfl
set_option maxRecDepth 100000 in
theorem v735 : (Jvm.Cond.instanceMethod ({ cls := "HalfOrders", name := "count", desc := "(I)I" } : Jvm.MethodName)) ∈ mw_tbl := mwt_3 171 rfl rfl
set_option maxRecDepth 100000 in
theorem v736 : (Jvm.Cond.selects "HalfOrders" ({ cls := "HalfOrders", name := "count", desc := "(I)I" } : Jvm.MethodName) ({ cls := "HalfOrders", name := "count", desc := "(I)I" } : Jvm.MethodName)) ∈ mw_tbl := mwt_3 172 rfl rfl
theorem ww_X11_count : WW mi_X11_count 65 1 := ⟨v737, v734, v85, v735, v736, ⟨by decide, by decide, by decide +kernel⟩, by decide⟩
set_option maxRecDepth 100000 in
theorem v1480 : (Jvm.Cond.code ({ cls := "HalfOrdersModel", name := "count", desc := "(I)I" } : Jvm.MethodName) prog_14_method_69_code (2 : Nat) (Option.some Jvm.ClassFile.FieldType.int)) ∈ mw_tbl := mwt_6 196 rfl rfl
set_option maxRecDepth 100000 in
theorem v1477 : (Jvm.Cond.methodLink "HalfOrdersLaw" (68 : Nat) ({ cls := "HalfOrdersModel", name := "count", desc := "(I)I" } : Jvm.MethodName)) ∈ mw_tbl := mwt_6 193 rfl rfl
set_option maxRecDepth 100000 in
theorem v1478 : (Jvm.Cond.instanceMethod ({ cls := "HalfOrdersModel", name := "count", desc := "(I)I" } : Jvm.MethodName)) ∈ mw_tbl := mwt_6 194 rfl rfl
set_option maxRecDepth 100000 in
theorem v1479 : (Jvm.Cond.selects "HalfOrdersModel" ({ cls := "HalfOrdersModel", name := "count", desc := "(I)I" } : Jvm.MethodName) ({ cls := "HalfOrdersModel", name := "count", desc := "(I)I" } : Jvm.MethodName)) ∈ mw_tbl := mwt_6 195 rfl rfl
theorem ww_X12_count : WW mi_X12_count 68 1 := ⟨v1480, v1477, v92, v1478, v1479, ⟨by decide, by decide, by decide +kernel⟩, by decide⟩
def TL_536 : List (Nat × Instr × Nat) := [(536, .aload_n 1, 1), (537, .aload_n 0, 1), (538, .iload_n 3, 1), (539, .iconst 1, 1), (540, .iadd, 1), (541, .iaload, 1), (542, .invokevirtual 65, 3), (545, .aload_n 2, 1), (546, .aload_n 0, 1), (547, .iload_n 3, 1), (548, .iconst 1, 1), (549, .iadd, 1), (550, .iaload, 1), (551, .invokevirtual 68, 3), (554, .if_icmp .eq 871, 3), (557, .iconst 0, 1)]
set_option maxRecDepth 100000 in
theorem dtl_536 : ∀ q ∈ TL_536, decode code q.1 = .ok q.2 := by decide +kernel
set_option maxRecDepth 100000 in
theorem ad_537 : argD 537 1 := fun t ht => by
    have hh : t = 0 := by omega
    rcases hh with rfl
    · exact ⟨dtk dtl_536 1 (537, .aload_n 0, 1) rfl, dtk dtl_536 2 (538, .iload_n 3, 1) rfl, dtk dtl_536 3 (539, .iconst 1, 1) rfl, dtk dtl_536 4 (540, .iadd, 1) rfl, dtk dtl_536 5 (541, .iaload, 1) rfl⟩
set_option maxRecDepth 100000 in
theorem ad_546 : argD 546 1 := fun t ht => by
    have hh : t = 0 := by omega
    rcases hh with rfl
    · exact ⟨dtk dtl_536 8 (546, .aload_n 0, 1) rfl, dtk dtl_536 9 (547, .iload_n 3, 1) rfl, dtk dtl_536 10 (548, .iconst 1, 1) rfl, dtk dtl_536 11 (549, .iadd, 1) rfl, dtk dtl_536 12 (550, .iaload, 1) rfl⟩
set_option maxRecDepth 100000 in
theorem dec_536 : caseD 536 1 65 68 871 := ⟨dtk dtl_536 0 (536, .aload_n 1, 1) rfl, ad_537, dtk dtl_536 6 (542, .invokevirtual 65, 3) rfl, dtk dtl_536 7 (545, .aload_n 2, 1) rfl, ad_546, dtk dtl_536 13 (551, .invokevirtual 68, 3) rfl, dtk dtl_536 14 (554, .if_icmp .eq 871, 3) rfl, by decide⟩
set_option maxRecDepth 100000 in
theorem v741 : (Jvm.Cond.code ({ cls := "HalfOrders", name := "below", desc := "(III)I" } : Jvm.MethodName) prog_1_method_15_code (5 : Nat) (Option.some Jvm.ClassFile.FieldType.int)) ∈ mw_tbl := mwt_3 177 rfl rfl
set_option maxRecDepth 100000 in
theorem v738 : (Jvm.Cond.methodLink "HalfOrdersLaw" (69 : Nat) ({ cls := "HalfOrders", name := "below", desc := "(III)I" } : Jvm.MethodName)) ∈ mw_tbl := mwt_3 174 rfl rfl
set_option maxRecDepth 100000 in
theorem v739 : (Jvm.Cond.instanceMethod ({ cls := "HalfOrders", name := "below", desc := "(III)I" } : Jvm.MethodName)) ∈ mw_tbl := mwt_3 175 rfl rfl
set_option maxRecDepth 100000 in
theorem v740 : (Jvm.Cond.selects "HalfOrders" ({ cls := "HalfOrders", name := "below", desc := "(III)I" } : Jvm.MethodName) ({ cls := "HalfOrders", name := "below", desc := "(III)I" } : Jvm.MethodName)) ∈ mw_tbl := mwt_3 176 rfl rfl
theorem ww_X11_below : WW mi_X11_below 69 3 := ⟨v741, v738, v85, v739, v740, ⟨by decide, by decide, by decide +kernel⟩, by decide⟩
set_option maxRecDepth 100000 in
theorem v1484 : (Jvm.Cond.code ({ cls := "HalfOrdersModel", name := "below", desc := "(III)I" } : Jvm.MethodName) prog_14_method_70_code (4 : Nat) (Option.some Jvm.ClassFile.FieldType.int)) ∈ mw_tbl := mwt_6 200 rfl rfl
set_option maxRecDepth 100000 in
theorem v1481 : (Jvm.Cond.methodLink "HalfOrdersLaw" (72 : Nat) ({ cls := "HalfOrdersModel", name := "below", desc := "(III)I" } : Jvm.MethodName)) ∈ mw_tbl := mwt_6 197 rfl rfl
set_option maxRecDepth 100000 in
theorem v1482 : (Jvm.Cond.instanceMethod ({ cls := "HalfOrdersModel", name := "below", desc := "(III)I" } : Jvm.MethodName)) ∈ mw_tbl := mwt_6 198 rfl rfl
set_option maxRecDepth 100000 in
theorem v1483 : (Jvm.Cond.selects "HalfOrdersModel" ({ cls := "HalfOrdersModel", name := "below", desc := "(III)I" } : Jvm.MethodName) ({ cls := "HalfOrdersModel", name := "below", desc := "(III)I" } : Jvm.MethodName)) ∈ mw_tbl := mwt_6 199 rfl rfl
theorem ww_X12_below : WW mi_X12_below 72 3 := ⟨v1484, v1481, v92, v1482, v1483, ⟨by decide, by decide, by decide +kernel⟩, by decide⟩
def TL_559 : List (Nat × Instr × Nat) := [(559, .aload_n 1, 1), (560, .aload_n 0, 1), (561, .iload_n 3, 1), (562, .iconst 1, 1), (563, .iadd, 1), (564, .iaload, 1), (565, .aload_n 0, 1), (566, .iload_n 3, 1), (567, .iconst 2, 1), (568, .iadd, 1), (569, .iaload, 1), (570, .aload_n 0, 1), (571, .iload_n 3, 1), (572, .iconst 3, 1), (573, .iadd, 1), (574, .iaload, 1), (575, .invokevirtual 69, 3), (578, .aload_n 2, 1), (579, .aload_n 0, 1), (580, .iload_n 3, 1), (581, .iconst 1, 1), (582, .iadd, 1), (583, .iaload, 1), (584, .aload_n 0, 1), (585, .iload_n 3, 1), (586, .iconst 2, 1), (587, .iadd, 1), (588, .iaload, 1), (589, .aload_n 0, 1), (590, .iload_n 3, 1), (591, .iconst 3, 1), (592, .iadd, 1), (593, .iaload, 1), (594, .invokevirtual 72, 3), (597, .if_icmp .eq 828, 3), (600, .iconst 0, 1)]
set_option maxRecDepth 100000 in
theorem dtl_559 : ∀ q ∈ TL_559, decode code q.1 = .ok q.2 := by decide +kernel
set_option maxRecDepth 100000 in
theorem ad_560 : argD 560 3 := fun t ht => by
    have hh : t = 0 ∨ t = 1 ∨ t = 2 := by omega
    rcases hh with rfl | rfl | rfl
    · exact ⟨dtk dtl_559 1 (560, .aload_n 0, 1) rfl, dtk dtl_559 2 (561, .iload_n 3, 1) rfl, dtk dtl_559 3 (562, .iconst 1, 1) rfl, dtk dtl_559 4 (563, .iadd, 1) rfl, dtk dtl_559 5 (564, .iaload, 1) rfl⟩
    · exact ⟨dtk dtl_559 6 (565, .aload_n 0, 1) rfl, dtk dtl_559 7 (566, .iload_n 3, 1) rfl, dtk dtl_559 8 (567, .iconst 2, 1) rfl, dtk dtl_559 9 (568, .iadd, 1) rfl, dtk dtl_559 10 (569, .iaload, 1) rfl⟩
    · exact ⟨dtk dtl_559 11 (570, .aload_n 0, 1) rfl, dtk dtl_559 12 (571, .iload_n 3, 1) rfl, dtk dtl_559 13 (572, .iconst 3, 1) rfl, dtk dtl_559 14 (573, .iadd, 1) rfl, dtk dtl_559 15 (574, .iaload, 1) rfl⟩
set_option maxRecDepth 100000 in
theorem ad_579 : argD 579 3 := fun t ht => by
    have hh : t = 0 ∨ t = 1 ∨ t = 2 := by omega
    rcases hh with rfl | rfl | rfl
    · exact ⟨dtk dtl_559 18 (579, .aload_n 0, 1) rfl, dtk dtl_559 19 (580, .iload_n 3, 1) rfl, dtk dtl_559 20 (581, .iconst 1, 1) rfl, dtk dtl_559 21 (582, .iadd, 1) rfl, dtk dtl_559 22 (583, .iaload, 1) rfl⟩
    · exact ⟨dtk dtl_559 23 (584, .aload_n 0, 1) rfl, dtk dtl_559 24 (585, .iload_n 3, 1) rfl, dtk dtl_559 25 (586, .iconst 2, 1) rfl, dtk dtl_559 26 (587, .iadd, 1) rfl, dtk dtl_559 27 (588, .iaload, 1) rfl⟩
    · exact ⟨dtk dtl_559 28 (589, .aload_n 0, 1) rfl, dtk dtl_559 29 (590, .iload_n 3, 1) rfl, dtk dtl_559 30 (591, .iconst 3, 1) rfl, dtk dtl_559 31 (592, .iadd, 1) rfl, dtk dtl_559 32 (593, .iaload, 1) rfl⟩
set_option maxRecDepth 100000 in
theorem dec_559 : caseD 559 3 69 72 828 := ⟨dtk dtl_559 0 (559, .aload_n 1, 1) rfl, ad_560, dtk dtl_559 16 (575, .invokevirtual 69, 3) rfl, dtk dtl_559 17 (578, .aload_n 2, 1) rfl, ad_579, dtk dtl_559 33 (594, .invokevirtual 72, 3) rfl, dtk dtl_559 34 (597, .if_icmp .eq 828, 3) rfl, by decide⟩
set_option maxRecDepth 100000 in
theorem v746 : (Jvm.Cond.code ({ cls := "HalfOrders", name := "widest", desc := "(I)I" } : Jvm.MethodName) prog_1_method_16_code (3 : Nat) (Option.some Jvm.ClassFile.FieldType.int)) ∈ mw_tbl := mwt_3 182 rfl rfl
set_option maxRecDepth 100000 in
theorem v743 : (Jvm.Cond.methodLink "HalfOrdersLaw" (73 : Nat) ({ cls := "HalfOrders", name := "widest", desc := "(I)I" } : Jvm.MethodName)) ∈ mw_tbl := mwt_3 179 rfl rfl
set_option maxRecDepth 100000 in
theorem v744 : (Jvm.Cond.instanceMethod ({ cls := "HalfOrders", name := "widest", desc := "(I)I" } : Jvm.MethodName)) ∈ mw_tbl := mwt_3 180 rfl rfl
set_option maxRecDepth 100000 in
theorem v745 : (Jvm.Cond.selects "HalfOrders" ({ cls := "HalfOrders", name := "widest", desc := "(I)I" } : Jvm.MethodName) ({ cls := "HalfOrders", name := "widest", desc := "(I)I" } : Jvm.MethodName)) ∈ mw_tbl := mwt_3 181 rfl rfl
theorem ww_X11_widest : WW mi_X11_widest 73 1 := ⟨v746, v743, v85, v744, v745, ⟨by decide, by decide, by decide +kernel⟩, by decide⟩
set_option maxRecDepth 100000 in
theorem v1359 : (Jvm.Cond.code ({ cls := "HalfOrdersModel", name := "widest", desc := "(I)I" } : Jvm.MethodName) prog_14_method_43_code (2 : Nat) (Option.some Jvm.ClassFile.FieldType.int)) ∈ mw_tbl := mwt_6 75 rfl rfl
set_option maxRecDepth 100000 in
theorem v1356 : (Jvm.Cond.methodLink "HalfOrdersLaw" (76 : Nat) ({ cls := "HalfOrdersModel", name := "widest", desc := "(I)I" } : Jvm.MethodName)) ∈ mw_tbl := mwt_6 72 rfl rfl
set_option maxRecDepth 100000 in
theorem v1357 : (Jvm.Cond.instanceMethod ({ cls := "HalfOrdersModel", name := "widest", desc := "(I)I" } : Jvm.MethodName)) ∈ mw_tbl := mwt_6 73 rfl rfl
set_option maxRecDepth 100000 in
theorem v1358 : (Jvm.Cond.selects "HalfOrdersModel" ({ cls := "HalfOrdersModel", name := "widest", desc := "(I)I" } : Jvm.MethodName) ({ cls := "HalfOrdersModel", name := "widest", desc := "(I)I" } : Jvm.MethodName)) ∈ mw_tbl := mwt_6 74 rfl rfl
theorem ww_X12_widest : WW mi_X12_widest 76 1 := ⟨v1359, v1356, v92, v1357, v1358, ⟨by decide, by decide, by decide +kernel⟩, by decide⟩
def TL_602 : List (Nat × Instr × Nat) := [(602, .aload_n 1, 1), (603, .aload_n 0, 1), (604, .iload_n 3, 1), (605, .iconst 1, 1), (606, .iadd, 1), (607, .iaload, 1), (608, .invokevirtual 73, 3), (611, .aload_n 2, 1), (612, .aload_n 0, 1), (613, .iload_n 3, 1), (614, .iconst 1, 1), (615, .iadd, 1), (616, .iaload, 1), (617, .invokevirtual 76, 3), (620, .if_icmp .eq 805, 3), (623, .iconst 0, 1)]
set_option maxRecDepth 100000 in
theorem dtl_602 : ∀ q ∈ TL_602, decode code q.1 = .ok q.2 := by decide +kernel
set_option maxRecDepth 100000 in
theorem ad_603 : argD 603 1 := fun t ht => by
    have hh : t = 0 := by omega
    rcases hh with rfl
    · exact ⟨dtk dtl_602 1 (603, .aload_n 0, 1) rfl, dtk dtl_602 2 (604, .iload_n 3, 1) rfl, dtk dtl_602 3 (605, .iconst 1, 1) rfl, dtk dtl_602 4 (606, .iadd, 1) rfl, dtk dtl_602 5 (607, .iaload, 1) rfl⟩
set_option maxRecDepth 100000 in
theorem ad_612 : argD 612 1 := fun t ht => by
    have hh : t = 0 := by omega
    rcases hh with rfl
    · exact ⟨dtk dtl_602 8 (612, .aload_n 0, 1) rfl, dtk dtl_602 9 (613, .iload_n 3, 1) rfl, dtk dtl_602 10 (614, .iconst 1, 1) rfl, dtk dtl_602 11 (615, .iadd, 1) rfl, dtk dtl_602 12 (616, .iaload, 1) rfl⟩
set_option maxRecDepth 100000 in
theorem dec_602 : caseD 602 1 73 76 805 := ⟨dtk dtl_602 0 (602, .aload_n 1, 1) rfl, ad_603, dtk dtl_602 6 (608, .invokevirtual 73, 3) rfl, dtk dtl_602 7 (611, .aload_n 2, 1) rfl, ad_612, dtk dtl_602 13 (617, .invokevirtual 76, 3) rfl, dtk dtl_602 14 (620, .if_icmp .eq 805, 3) rfl, by decide⟩
set_option maxRecDepth 100000 in
theorem v750 : (Jvm.Cond.code ({ cls := "HalfOrders", name := "of", desc := "(III)I" } : Jvm.MethodName) prog_1_method_17_code (5 : Nat) (Option.some Jvm.ClassFile.FieldType.int)) ∈ mw_tbl := mwt_3 186 rfl rfl
set_option maxRecDepth 100000 in
theorem v747 : (Jvm.Cond.methodLink "HalfOrdersLaw" (77 : Nat) ({ cls := "HalfOrders", name := "of", desc := "(III)I" } : Jvm.MethodName)) ∈ mw_tbl := mwt_3 183 rfl rfl
set_option maxRecDepth 100000 in
theorem v748 : (Jvm.Cond.instanceMethod ({ cls := "HalfOrders", name := "of", desc := "(III)I" } : Jvm.MethodName)) ∈ mw_tbl := mwt_3 184 rfl rfl
set_option maxRecDepth 100000 in
theorem v749 : (Jvm.Cond.selects "HalfOrders" ({ cls := "HalfOrders", name := "of", desc := "(III)I" } : Jvm.MethodName) ({ cls := "HalfOrders", name := "of", desc := "(III)I" } : Jvm.MethodName)) ∈ mw_tbl := mwt_3 185 rfl rfl
theorem ww_X11_of : WW mi_X11_of 77 3 := ⟨v750, v747, v85, v748, v749, ⟨by decide, by decide, by decide +kernel⟩, by decide⟩
set_option maxRecDepth 100000 in
theorem v1374 : (Jvm.Cond.code ({ cls := "HalfOrdersModel", name := "of", desc := "(III)I" } : Jvm.MethodName) prog_14_method_48_code (4 : Nat) (Option.some Jvm.ClassFile.FieldType.int)) ∈ mw_tbl := mwt_6 90 rfl rfl
set_option maxRecDepth 100000 in
theorem v1371 : (Jvm.Cond.methodLink "HalfOrdersLaw" (80 : Nat) ({ cls := "HalfOrdersModel", name := "of", desc := "(III)I" } : Jvm.MethodName)) ∈ mw_tbl := mwt_6 87 rfl rfl
set_option maxRecDepth 100000 in
theorem v1372 : (Jvm.Cond.instanceMethod ({ cls := "HalfOrdersModel", name := "of", desc := "(III)I" } : Jvm.MethodName)) ∈ mw_tbl := mwt_6 88 rfl rfl
set_option maxRecDepth 100000 in
theorem v1373 : (Jvm.Cond.selects "HalfOrdersModel" ({ cls := "HalfOrdersModel", name := "of", desc := "(III)I" } : Jvm.MethodName) ({ cls := "HalfOrdersModel", name := "of", desc := "(III)I" } : Jvm.MethodName)) ∈ mw_tbl := mwt_6 89 rfl rfl
theorem ww_X12_of : WW mi_X12_of 80 3 := ⟨v1374, v1371, v92, v1372, v1373, ⟨by decide, by decide, by decide +kernel⟩, by decide⟩
def TL_625 : List (Nat × Instr × Nat) := [(625, .aload_n 1, 1), (626, .aload_n 0, 1), (627, .iload_n 3, 1), (628, .iconst 1, 1), (629, .iadd, 1), (630, .iaload, 1), (631, .aload_n 0, 1), (632, .iload_n 3, 1), (633, .iconst 2, 1), (634, .iadd, 1), (635, .iaload, 1), (636, .aload_n 0, 1), (637, .iload_n 3, 1), (638, .iconst 3, 1), (639, .iadd, 1), (640, .iaload, 1), (641, .invokevirtual 77, 3), (644, .aload_n 2, 1), (645, .aload_n 0, 1), (646, .iload_n 3, 1), (647, .iconst 1, 1), (648, .iadd, 1), (649, .iaload, 1), (650, .aload_n 0, 1), (651, .iload_n 3, 1), (652, .iconst 2, 1), (653, .iadd, 1), (654, .iaload, 1), (655, .aload_n 0, 1), (656, .iload_n 3, 1), (657, .iconst 3, 1), (658, .iadd, 1), (659, .iaload, 1), (660, .invokevirtual 80, 3), (663, .if_icmp .eq 762, 3), (666, .iconst 0, 1)]
set_option maxRecDepth 100000 in
theorem dtl_625 : ∀ q ∈ TL_625, decode code q.1 = .ok q.2 := by decide +kernel
set_option maxRecDepth 100000 in
theorem ad_626 : argD 626 3 := fun t ht => by
    have hh : t = 0 ∨ t = 1 ∨ t = 2 := by omega
    rcases hh with rfl | rfl | rfl
    · exact ⟨dtk dtl_625 1 (626, .aload_n 0, 1) rfl, dtk dtl_625 2 (627, .iload_n 3, 1) rfl, dtk dtl_625 3 (628, .iconst 1, 1) rfl, dtk dtl_625 4 (629, .iadd, 1) rfl, dtk dtl_625 5 (630, .iaload, 1) rfl⟩
    · exact ⟨dtk dtl_625 6 (631, .aload_n 0, 1) rfl, dtk dtl_625 7 (632, .iload_n 3, 1) rfl, dtk dtl_625 8 (633, .iconst 2, 1) rfl, dtk dtl_625 9 (634, .iadd, 1) rfl, dtk dtl_625 10 (635, .iaload, 1) rfl⟩
    · exact ⟨dtk dtl_625 11 (636, .aload_n 0, 1) rfl, dtk dtl_625 12 (637, .iload_n 3, 1) rfl, dtk dtl_625 13 (638, .iconst 3, 1) rfl, dtk dtl_625 14 (639, .iadd, 1) rfl, dtk dtl_625 15 (640, .iaload, 1) rfl⟩
set_option maxRecDepth 100000 in
theorem ad_645 : argD 645 3 := fun t ht => by
    have hh : t = 0 ∨ t = 1 ∨ t = 2 := by omega
    rcases hh with rfl | rfl | rfl
    · exact ⟨dtk dtl_625 18 (645, .aload_n 0, 1) rfl, dtk dtl_625 19 (646, .iload_n 3, 1) rfl, dtk dtl_625 20 (647, .iconst 1, 1) rfl, dtk dtl_625 21 (648, .iadd, 1) rfl, dtk dtl_625 22 (649, .iaload, 1) rfl⟩
    · exact ⟨dtk dtl_625 23 (650, .aload_n 0, 1) rfl, dtk dtl_625 24 (651, .iload_n 3, 1) rfl, dtk dtl_625 25 (652, .iconst 2, 1) rfl, dtk dtl_625 26 (653, .iadd, 1) rfl, dtk dtl_625 27 (654, .iaload, 1) rfl⟩
    · exact ⟨dtk dtl_625 28 (655, .aload_n 0, 1) rfl, dtk dtl_625 29 (656, .iload_n 3, 1) rfl, dtk dtl_625 30 (657, .iconst 3, 1) rfl, dtk dtl_625 31 (658, .iadd, 1) rfl, dtk dtl_625 32 (659, .iaload, 1) rfl⟩
set_option maxRecDepth 100000 in
theorem dec_625 : caseD 625 3 77 80 762 := ⟨dtk dtl_625 0 (625, .aload_n 1, 1) rfl, ad_626, dtk dtl_625 16 (641, .invokevirtual 77, 3) rfl, dtk dtl_625 17 (644, .aload_n 2, 1) rfl, ad_645, dtk dtl_625 33 (660, .invokevirtual 80, 3) rfl, dtk dtl_625 34 (663, .if_icmp .eq 762, 3) rfl, by decide⟩
set_option maxRecDepth 100000 in
theorem v779 : (Jvm.Cond.code ({ cls := "HalfOrders", name := "low", desc := "(II)I" } : Jvm.MethodName) prog_1_method_18_code (4 : Nat) (Option.some Jvm.ClassFile.FieldType.int)) ∈ mw_tbl := mwt_3 215 rfl rfl
set_option maxRecDepth 100000 in
theorem v776 : (Jvm.Cond.methodLink "HalfOrdersLaw" (81 : Nat) ({ cls := "HalfOrders", name := "low", desc := "(II)I" } : Jvm.MethodName)) ∈ mw_tbl := mwt_3 212 rfl rfl
set_option maxRecDepth 100000 in
theorem v777 : (Jvm.Cond.instanceMethod ({ cls := "HalfOrders", name := "low", desc := "(II)I" } : Jvm.MethodName)) ∈ mw_tbl := mwt_3 213 rfl rfl
set_option maxRecDepth 100000 in
theorem v778 : (Jvm.Cond.selects "HalfOrders" ({ cls := "HalfOrders", name := "low", desc := "(II)I" } : Jvm.MethodName) ({ cls := "HalfOrders", name := "low", desc := "(II)I" } : Jvm.MethodName)) ∈ mw_tbl := mwt_3 214 rfl rfl
theorem ww_X11_low : WW mi_X11_low 81 2 := ⟨v779, v776, v85, v777, v778, ⟨by decide, by decide, by decide +kernel⟩, by decide⟩
set_option maxRecDepth 100000 in
theorem v1488 : (Jvm.Cond.code ({ cls := "HalfOrdersModel", name := "low", desc := "(II)I" } : Jvm.MethodName) prog_14_method_71_code (3 : Nat) (Option.some Jvm.ClassFile.FieldType.int)) ∈ mw_tbl := mwt_6 204 rfl rfl
set_option maxRecDepth 100000 in
theorem v1485 : (Jvm.Cond.methodLink "HalfOrdersLaw" (84 : Nat) ({ cls := "HalfOrdersModel", name := "low", desc := "(II)I" } : Jvm.MethodName)) ∈ mw_tbl := mwt_6 201 rfl rfl
set_option maxRecDepth 100000 in
theorem v1486 : (Jvm.Cond.instanceMethod ({ cls := "HalfOrdersModel", name := "low", desc := "(II)I" } : Jvm.MethodName)) ∈ mw_tbl := mwt_6 202 rfl rfl
set_option maxRecDepth 100000 in
theorem v1487 : (Jvm.Cond.selects "HalfOrdersModel" ({ cls := "HalfOrdersModel", name := "low", desc := "(II)I" } : Jvm.MethodName) ({ cls := "HalfOrdersModel", name := "low", desc := "(II)I" } : Jvm.MethodName)) ∈ mw_tbl := mwt_6 203 rfl rfl
theorem ww_X12_low : WW mi_X12_low 84 2 := ⟨v1488, v1485, v92, v1486, v1487, ⟨by decide, by decide, by decide +kernel⟩, by decide⟩
def TL_668 : List (Nat × Instr × Nat) := [(668, .aload_n 1, 1), (669, .aload_n 0, 1), (670, .iload_n 3, 1), (671, .iconst 1, 1), (672, .iadd, 1), (673, .iaload, 1), (674, .aload_n 0, 1), (675, .iload_n 3, 1), (676, .iconst 2, 1), (677, .iadd, 1), (678, .iaload, 1), (679, .invokevirtual 81, 3), (682, .aload_n 2, 1), (683, .aload_n 0, 1), (684, .iload_n 3, 1), (685, .iconst 1, 1), (686, .iadd, 1), (687, .iaload, 1), (688, .aload_n 0, 1), (689, .iload_n 3, 1), (690, .iconst 2, 1), (691, .iadd, 1), (692, .iaload, 1), (693, .invokevirtual 84, 3), (696, .if_icmp .eq 729, 3), (699, .iconst 0, 1)]
set_option maxRecDepth 100000 in
theorem dtl_668 : ∀ q ∈ TL_668, decode code q.1 = .ok q.2 := by decide +kernel
set_option maxRecDepth 100000 in
theorem ad_669 : argD 669 2 := fun t ht => by
    have hh : t = 0 ∨ t = 1 := by omega
    rcases hh with rfl | rfl
    · exact ⟨dtk dtl_668 1 (669, .aload_n 0, 1) rfl, dtk dtl_668 2 (670, .iload_n 3, 1) rfl, dtk dtl_668 3 (671, .iconst 1, 1) rfl, dtk dtl_668 4 (672, .iadd, 1) rfl, dtk dtl_668 5 (673, .iaload, 1) rfl⟩
    · exact ⟨dtk dtl_668 6 (674, .aload_n 0, 1) rfl, dtk dtl_668 7 (675, .iload_n 3, 1) rfl, dtk dtl_668 8 (676, .iconst 2, 1) rfl, dtk dtl_668 9 (677, .iadd, 1) rfl, dtk dtl_668 10 (678, .iaload, 1) rfl⟩
set_option maxRecDepth 100000 in
theorem ad_683 : argD 683 2 := fun t ht => by
    have hh : t = 0 ∨ t = 1 := by omega
    rcases hh with rfl | rfl
    · exact ⟨dtk dtl_668 13 (683, .aload_n 0, 1) rfl, dtk dtl_668 14 (684, .iload_n 3, 1) rfl, dtk dtl_668 15 (685, .iconst 1, 1) rfl, dtk dtl_668 16 (686, .iadd, 1) rfl, dtk dtl_668 17 (687, .iaload, 1) rfl⟩
    · exact ⟨dtk dtl_668 18 (688, .aload_n 0, 1) rfl, dtk dtl_668 19 (689, .iload_n 3, 1) rfl, dtk dtl_668 20 (690, .iconst 2, 1) rfl, dtk dtl_668 21 (691, .iadd, 1) rfl, dtk dtl_668 22 (692, .iaload, 1) rfl⟩
set_option maxRecDepth 100000 in
theorem dec_668 : caseD 668 2 81 84 729 := ⟨dtk dtl_668 0 (668, .aload_n 1, 1) rfl, ad_669, dtk dtl_668 11 (679, .invokevirtual 81, 3) rfl, dtk dtl_668 12 (682, .aload_n 2, 1) rfl, ad_683, dtk dtl_668 23 (693, .invokevirtual 84, 3) rfl, dtk dtl_668 24 (696, .if_icmp .eq 729, 3) rfl, by decide⟩
set_option maxRecDepth 100000 in
theorem v787 : (Jvm.Cond.code ({ cls := "HalfOrders", name := "rowOut", desc := "(III)I" } : Jvm.MethodName) prog_1_method_19_code (5 : Nat) (Option.some Jvm.ClassFile.FieldType.int)) ∈ mw_tbl := mwt_3 223 rfl rfl
set_option maxRecDepth 100000 in
theorem v784 : (Jvm.Cond.methodLink "HalfOrdersLaw" (85 : Nat) ({ cls := "HalfOrders", name := "rowOut", desc := "(III)I" } : Jvm.MethodName)) ∈ mw_tbl := mwt_3 220 rfl rfl
set_option maxRecDepth 100000 in
theorem v785 : (Jvm.Cond.instanceMethod ({ cls := "HalfOrders", name := "rowOut", desc := "(III)I" } : Jvm.MethodName)) ∈ mw_tbl := mwt_3 221 rfl rfl
set_option maxRecDepth 100000 in
theorem v786 : (Jvm.Cond.selects "HalfOrders" ({ cls := "HalfOrders", name := "rowOut", desc := "(III)I" } : Jvm.MethodName) ({ cls := "HalfOrders", name := "rowOut", desc := "(III)I" } : Jvm.MethodName)) ∈ mw_tbl := mwt_3 222 rfl rfl
theorem ww_X11_rowOut : WW mi_X11_rowOut 85 3 := ⟨v787, v784, v85, v785, v786, ⟨by decide, by decide, by decide +kernel⟩, by decide⟩
set_option maxRecDepth 100000 in
theorem v1318 : (Jvm.Cond.code ({ cls := "HalfOrdersModel", name := "rowOut", desc := "(III)I" } : Jvm.MethodName) prog_14_method_36_code (4 : Nat) (Option.some Jvm.ClassFile.FieldType.int)) ∈ mw_tbl := mwt_6 34 rfl rfl
set_option maxRecDepth 100000 in
theorem v1315 : (Jvm.Cond.methodLink "HalfOrdersLaw" (88 : Nat) ({ cls := "HalfOrdersModel", name := "rowOut", desc := "(III)I" } : Jvm.MethodName)) ∈ mw_tbl := mwt_6 31 rfl rfl
set_option maxRecDepth 100000 in
theorem v1316 : (Jvm.Cond.instanceMethod ({ cls := "HalfOrdersModel", name := "rowOut", desc := "(III)I" } : Jvm.MethodName)) ∈ mw_tbl := mwt_6 32 rfl rfl
set_option maxRecDepth 100000 in
theorem v1317 : (Jvm.Cond.selects "HalfOrdersModel" ({ cls := "HalfOrdersModel", name := "rowOut", desc := "(III)I" } : Jvm.MethodName) ({ cls := "HalfOrdersModel", name := "rowOut", desc := "(III)I" } : Jvm.MethodName)) ∈ mw_tbl := mwt_6 33 rfl rfl
theorem ww_X12_rowOut : WW mi_X12_rowOut 88 3 := ⟨v1318, v1315, v92, v1316, v1317, ⟨by decide, by decide, by decide +kernel⟩, by decide⟩
def TL_701 : List (Nat × Instr × Nat) := [(701, .aload_n 1, 1), (702, .aload_n 0, 1), (703, .iload_n 3, 1), (704, .iconst 1, 1), (705, .iadd, 1), (706, .iaload, 1), (707, .aload_n 0, 1), (708, .iload_n 3, 1), (709, .iconst 2, 1), (710, .iadd, 1), (711, .iaload, 1), (712, .aload_n 0, 1), (713, .iload_n 3, 1), (714, .iconst 3, 1), (715, .iadd, 1), (716, .iaload, 1), (717, .invokevirtual 85, 3), (720, .aload_n 2, 1), (721, .aload_n 0, 1), (722, .iload_n 3, 1), (723, .iconst 1, 1), (724, .iadd, 1), (725, .iaload, 1), (726, .aload_n 0, 1), (727, .iload_n 3, 1), (728, .iconst 2, 1), (729, .iadd, 1), (730, .iaload, 1), (731, .aload_n 0, 1), (732, .iload_n 3, 1), (733, .iconst 3, 1), (734, .iadd, 1), (735, .iaload, 1), (736, .invokevirtual 88, 3), (739, .if_icmp .eq 686, 3), (742, .iconst 0, 1)]
set_option maxRecDepth 100000 in
theorem dtl_701 : ∀ q ∈ TL_701, decode code q.1 = .ok q.2 := by decide +kernel
set_option maxRecDepth 100000 in
theorem ad_702 : argD 702 3 := fun t ht => by
    have hh : t = 0 ∨ t = 1 ∨ t = 2 := by omega
    rcases hh with rfl | rfl | rfl
    · exact ⟨dtk dtl_701 1 (702, .aload_n 0, 1) rfl, dtk dtl_701 2 (703, .iload_n 3, 1) rfl, dtk dtl_701 3 (704, .iconst 1, 1) rfl, dtk dtl_701 4 (705, .iadd, 1) rfl, dtk dtl_701 5 (706, .iaload, 1) rfl⟩
    · exact ⟨dtk dtl_701 6 (707, .aload_n 0, 1) rfl, dtk dtl_701 7 (708, .iload_n 3, 1) rfl, dtk dtl_701 8 (709, .iconst 2, 1) rfl, dtk dtl_701 9 (710, .iadd, 1) rfl, dtk dtl_701 10 (711, .iaload, 1) rfl⟩
    · exact ⟨dtk dtl_701 11 (712, .aload_n 0, 1) rfl, dtk dtl_701 12 (713, .iload_n 3, 1) rfl, dtk dtl_701 13 (714, .iconst 3, 1) rfl, dtk dtl_701 14 (715, .iadd, 1) rfl, dtk dtl_701 15 (716, .iaload, 1) rfl⟩
set_option maxRecDepth 100000 in
theorem ad_721 : argD 721 3 := fun t ht => by
    have hh : t = 0 ∨ t = 1 ∨ t = 2 := by omega
    rcases hh with rfl | rfl | rfl
    · exact ⟨dtk dtl_701 18 (721, .aload_n 0, 1) rfl, dtk dtl_701 19 (722, .iload_n 3, 1) rfl, dtk dtl_701 20 (723, .iconst 1, 1) rfl, dtk dtl_701 21 (724, .iadd, 1) rfl, dtk dtl_701 22 (725, .iaload, 1) rfl⟩
    · exact ⟨dtk dtl_701 23 (726, .aload_n 0, 1) rfl, dtk dtl_701 24 (727, .iload_n 3, 1) rfl, dtk dtl_701 25 (728, .iconst 2, 1) rfl, dtk dtl_701 26 (729, .iadd, 1) rfl, dtk dtl_701 27 (730, .iaload, 1) rfl⟩
    · exact ⟨dtk dtl_701 28 (731, .aload_n 0, 1) rfl, dtk dtl_701 29 (732, .iload_n 3, 1) rfl, dtk dtl_701 30 (733, .iconst 3, 1) rfl, dtk dtl_701 31 (734, .iadd, 1) rfl, dtk dtl_701 32 (735, .iaload, 1) rfl⟩
set_option maxRecDepth 100000 in
theorem dec_701 : caseD 701 3 85 88 686 := ⟨dtk dtl_701 0 (701, .aload_n 1, 1) rfl, ad_702, dtk dtl_701 16 (717, .invokevirtual 85, 3) rfl, dtk dtl_701 17 (720, .aload_n 2, 1) rfl, ad_721, dtk dtl_701 33 (736, .invokevirtual 88, 3) rfl, dtk dtl_701 34 (739, .if_icmp .eq 686, 3) rfl, by decide⟩
set_option maxRecDepth 100000 in
theorem v800 : (Jvm.Cond.code ({ cls := "HalfOrders", name := "before", desc := "(III)I" } : Jvm.MethodName) prog_1_method_20_code (5 : Nat) (Option.some Jvm.ClassFile.FieldType.int)) ∈ mw_tbl := mwt_3 236 rfl rfl
set_option maxRecDepth 100000 in
theorem v797 : (Jvm.Cond.methodLink "HalfOrdersLaw" (89 : Nat) ({ cls := "HalfOrders", name := "before", desc := "(III)I" } : Jvm.MethodName)) ∈ mw_tbl := mwt_3 233 rfl rfl
set_option maxRecDepth 100000 in
theorem v798 : (Jvm.Cond.instanceMethod ({ cls := "HalfOrders", name := "before", desc := "(III)I" } : Jvm.MethodName)) ∈ mw_tbl := mwt_3 234 rfl rfl
set_option maxRecDepth 100000 in
theorem v799 : (Jvm.Cond.selects "HalfOrders" ({ cls := "HalfOrders", name := "before", desc := "(III)I" } : Jvm.MethodName) ({ cls := "HalfOrders", name := "before", desc := "(III)I" } : Jvm.MethodName)) ∈ mw_tbl := mwt_3 235 rfl rfl
theorem ww_X11_before : WW mi_X11_before 89 3 := ⟨v800, v797, v85, v798, v799, ⟨by decide, by decide, by decide +kernel⟩, by decide⟩
set_option maxRecDepth 100000 in
theorem v1338 : (Jvm.Cond.code ({ cls := "HalfOrdersModel", name := "before", desc := "(III)I" } : Jvm.MethodName) prog_14_method_37_code (4 : Nat) (Option.some Jvm.ClassFile.FieldType.int)) ∈ mw_tbl := mwt_6 54 rfl rfl
set_option maxRecDepth 100000 in
theorem v1335 : (Jvm.Cond.methodLink "HalfOrdersLaw" (92 : Nat) ({ cls := "HalfOrdersModel", name := "before", desc := "(III)I" } : Jvm.MethodName)) ∈ mw_tbl := mwt_6 51 rfl rfl
set_option maxRecDepth 100000 in
theorem v1336 : (Jvm.Cond.instanceMethod ({ cls := "HalfOrdersModel", name := "before", desc := "(III)I" } : Jvm.MethodName)) ∈ mw_tbl := mwt_6 52 rfl rfl
set_option maxRecDepth 100000 in
theorem v1337 : (Jvm.Cond.selects "HalfOrdersModel" ({ cls := "HalfOrdersModel", name := "before", desc := "(III)I" } : Jvm.MethodName) ({ cls := "HalfOrdersModel", name := "before", desc := "(III)I" } : Jvm.MethodName)) ∈ mw_tbl := mwt_6 53 rfl rfl
theorem ww_X12_before : WW mi_X12_before 92 3 := ⟨v1338, v1335, v92, v1336, v1337, ⟨by decide, by decide, by decide +kernel⟩, by decide⟩
def TL_744 : List (Nat × Instr × Nat) := [(744, .aload_n 1, 1), (745, .aload_n 0, 1), (746, .iload_n 3, 1), (747, .iconst 1, 1), (748, .iadd, 1), (749, .iaload, 1), (750, .aload_n 0, 1), (751, .iload_n 3, 1), (752, .iconst 2, 1), (753, .iadd, 1), (754, .iaload, 1), (755, .aload_n 0, 1), (756, .iload_n 3, 1), (757, .iconst 3, 1), (758, .iadd, 1), (759, .iaload, 1), (760, .invokevirtual 89, 3), (763, .aload_n 2, 1), (764, .aload_n 0, 1), (765, .iload_n 3, 1), (766, .iconst 1, 1), (767, .iadd, 1), (768, .iaload, 1), (769, .aload_n 0, 1), (770, .iload_n 3, 1), (771, .iconst 2, 1), (772, .iadd, 1), (773, .iaload, 1), (774, .aload_n 0, 1), (775, .iload_n 3, 1), (776, .iconst 3, 1), (777, .iadd, 1), (778, .iaload, 1), (779, .invokevirtual 92, 3), (782, .if_icmp .eq 643, 3), (785, .iconst 0, 1)]
set_option maxRecDepth 100000 in
theorem dtl_744 : ∀ q ∈ TL_744, decode code q.1 = .ok q.2 := by decide +kernel
set_option maxRecDepth 100000 in
theorem ad_745 : argD 745 3 := fun t ht => by
    have hh : t = 0 ∨ t = 1 ∨ t = 2 := by omega
    rcases hh with rfl | rfl | rfl
    · exact ⟨dtk dtl_744 1 (745, .aload_n 0, 1) rfl, dtk dtl_744 2 (746, .iload_n 3, 1) rfl, dtk dtl_744 3 (747, .iconst 1, 1) rfl, dtk dtl_744 4 (748, .iadd, 1) rfl, dtk dtl_744 5 (749, .iaload, 1) rfl⟩
    · exact ⟨dtk dtl_744 6 (750, .aload_n 0, 1) rfl, dtk dtl_744 7 (751, .iload_n 3, 1) rfl, dtk dtl_744 8 (752, .iconst 2, 1) rfl, dtk dtl_744 9 (753, .iadd, 1) rfl, dtk dtl_744 10 (754, .iaload, 1) rfl⟩
    · exact ⟨dtk dtl_744 11 (755, .aload_n 0, 1) rfl, dtk dtl_744 12 (756, .iload_n 3, 1) rfl, dtk dtl_744 13 (757, .iconst 3, 1) rfl, dtk dtl_744 14 (758, .iadd, 1) rfl, dtk dtl_744 15 (759, .iaload, 1) rfl⟩
set_option maxRecDepth 100000 in
theorem ad_764 : argD 764 3 := fun t ht => by
    have hh : t = 0 ∨ t = 1 ∨ t = 2 := by omega
    rcases hh with rfl | rfl | rfl
    · exact ⟨dtk dtl_744 18 (764, .aload_n 0, 1) rfl, dtk dtl_744 19 (765, .iload_n 3, 1) rfl, dtk dtl_744 20 (766, .iconst 1, 1) rfl, dtk dtl_744 21 (767, .iadd, 1) rfl, dtk dtl_744 22 (768, .iaload, 1) rfl⟩
    · exact ⟨dtk dtl_744 23 (769, .aload_n 0, 1) rfl, dtk dtl_744 24 (770, .iload_n 3, 1) rfl, dtk dtl_744 25 (771, .iconst 2, 1) rfl, dtk dtl_744 26 (772, .iadd, 1) rfl, dtk dtl_744 27 (773, .iaload, 1) rfl⟩
    · exact ⟨dtk dtl_744 28 (774, .aload_n 0, 1) rfl, dtk dtl_744 29 (775, .iload_n 3, 1) rfl, dtk dtl_744 30 (776, .iconst 3, 1) rfl, dtk dtl_744 31 (777, .iadd, 1) rfl, dtk dtl_744 32 (778, .iaload, 1) rfl⟩
set_option maxRecDepth 100000 in
theorem dec_744 : caseD 744 3 89 92 643 := ⟨dtk dtl_744 0 (744, .aload_n 1, 1) rfl, ad_745, dtk dtl_744 16 (760, .invokevirtual 89, 3) rfl, dtk dtl_744 17 (763, .aload_n 2, 1) rfl, ad_764, dtk dtl_744 33 (779, .invokevirtual 92, 3) rfl, dtk dtl_744 34 (782, .if_icmp .eq 643, 3) rfl, by decide⟩
set_option maxRecDepth 100000 in
theorem v812 : (Jvm.Cond.code ({ cls := "HalfOrders", name := "places", desc := "(II)J" } : Jvm.MethodName) prog_1_method_21_code (4 : Nat) (Option.some Jvm.ClassFile.FieldType.long)) ∈ mw_tbl := mwt_4 8 rfl rfl
set_option maxRecDepth 100000 in
theorem v809 : (Jvm.Cond.methodLink "HalfOrdersLaw" (93 : Nat) ({ cls := "HalfOrders", name := "places", desc := "(II)J" } : Jvm.MethodName)) ∈ mw_tbl := mwt_4 5 rfl rfl
set_option maxRecDepth 100000 in
theorem v810 : (Jvm.Cond.instanceMethod ({ cls := "HalfOrders", name := "places", desc := "(II)J" } : Jvm.MethodName)) ∈ mw_tbl := mwt_4 6 rfl rfl
set_option maxRecDepth 100000 in
theorem v811 : (Jvm.Cond.selects "HalfOrders" ({ cls := "HalfOrders", name := "places", desc := "(II)J" } : Jvm.MethodName) ({ cls := "HalfOrders", name := "places", desc := "(II)J" } : Jvm.MethodName)) ∈ mw_tbl := mwt_4 7 rfl rfl
theorem ww_X11_places : WW mi_X11_places 93 2 := ⟨v812, v809, v85, v810, v811, ⟨by decide, by decide, by decide +kernel⟩, by decide⟩
set_option maxRecDepth 100000 in
theorem v1342 : (Jvm.Cond.code ({ cls := "HalfOrdersModel", name := "places", desc := "(II)J" } : Jvm.MethodName) prog_14_method_38_code (6 : Nat) (Option.some Jvm.ClassFile.FieldType.long)) ∈ mw_tbl := mwt_6 58 rfl rfl
set_option maxRecDepth 100000 in
theorem v1339 : (Jvm.Cond.methodLink "HalfOrdersLaw" (97 : Nat) ({ cls := "HalfOrdersModel", name := "places", desc := "(II)J" } : Jvm.MethodName)) ∈ mw_tbl := mwt_6 55 rfl rfl
set_option maxRecDepth 100000 in
theorem v1340 : (Jvm.Cond.instanceMethod ({ cls := "HalfOrdersModel", name := "places", desc := "(II)J" } : Jvm.MethodName)) ∈ mw_tbl := mwt_6 56 rfl rfl
set_option maxRecDepth 100000 in
theorem v1341 : (Jvm.Cond.selects "HalfOrdersModel" ({ cls := "HalfOrdersModel", name := "places", desc := "(II)J" } : Jvm.MethodName) ({ cls := "HalfOrdersModel", name := "places", desc := "(II)J" } : Jvm.MethodName)) ∈ mw_tbl := mwt_6 57 rfl rfl
theorem ww_X12_places : WW mi_X12_places 97 2 := ⟨v1342, v1339, v92, v1340, v1341, ⟨by decide, by decide, by decide +kernel⟩, by decide⟩
def TL_787 : List (Nat × Instr × Nat) := [(787, .aload_n 1, 1), (788, .aload_n 0, 1), (789, .iload_n 3, 1), (790, .iconst 1, 1), (791, .iadd, 1), (792, .iaload, 1), (793, .aload_n 0, 1), (794, .iload_n 3, 1), (795, .iconst 2, 1), (796, .iadd, 1), (797, .iaload, 1), (798, .invokevirtual 93, 3), (801, .aload_n 2, 1), (802, .aload_n 0, 1), (803, .iload_n 3, 1), (804, .iconst 1, 1), (805, .iadd, 1), (806, .iaload, 1), (807, .aload_n 0, 1), (808, .iload_n 3, 1), (809, .iconst 2, 1), (810, .iadd, 1), (811, .iaload, 1), (812, .invokevirtual 97, 3), (815, .lcmp, 1), (816, .ifCond .eq 609, 3), (819, .iconst 0, 1)]
set_option maxRecDepth 100000 in
theorem dtl_787 : ∀ q ∈ TL_787, decode code q.1 = .ok q.2 := by decide +kernel
set_option maxRecDepth 100000 in
theorem ad_788 : argD 788 2 := fun t ht => by
    have hh : t = 0 ∨ t = 1 := by omega
    rcases hh with rfl | rfl
    · exact ⟨dtk dtl_787 1 (788, .aload_n 0, 1) rfl, dtk dtl_787 2 (789, .iload_n 3, 1) rfl, dtk dtl_787 3 (790, .iconst 1, 1) rfl, dtk dtl_787 4 (791, .iadd, 1) rfl, dtk dtl_787 5 (792, .iaload, 1) rfl⟩
    · exact ⟨dtk dtl_787 6 (793, .aload_n 0, 1) rfl, dtk dtl_787 7 (794, .iload_n 3, 1) rfl, dtk dtl_787 8 (795, .iconst 2, 1) rfl, dtk dtl_787 9 (796, .iadd, 1) rfl, dtk dtl_787 10 (797, .iaload, 1) rfl⟩
set_option maxRecDepth 100000 in
theorem ad_802 : argD 802 2 := fun t ht => by
    have hh : t = 0 ∨ t = 1 := by omega
    rcases hh with rfl | rfl
    · exact ⟨dtk dtl_787 13 (802, .aload_n 0, 1) rfl, dtk dtl_787 14 (803, .iload_n 3, 1) rfl, dtk dtl_787 15 (804, .iconst 1, 1) rfl, dtk dtl_787 16 (805, .iadd, 1) rfl, dtk dtl_787 17 (806, .iaload, 1) rfl⟩
    · exact ⟨dtk dtl_787 18 (807, .aload_n 0, 1) rfl, dtk dtl_787 19 (808, .iload_n 3, 1) rfl, dtk dtl_787 20 (809, .iconst 2, 1) rfl, dtk dtl_787 21 (810, .iadd, 1) rfl, dtk dtl_787 22 (811, .iaload, 1) rfl⟩
set_option maxRecDepth 100000 in
theorem dec_787 : caseDL 787 2 93 97 609 := ⟨dtk dtl_787 0 (787, .aload_n 1, 1) rfl, ad_788, dtk dtl_787 11 (798, .invokevirtual 93, 3) rfl, dtk dtl_787 12 (801, .aload_n 2, 1) rfl, ad_802, dtk dtl_787 23 (812, .invokevirtual 97, 3) rfl, dtk dtl_787 24 (815, .lcmp, 1) rfl, dtk dtl_787 25 (816, .ifCond .eq 609, 3) rfl, by decide⟩
set_option maxRecDepth 100000 in
theorem v822 : (Jvm.Cond.code ({ cls := "HalfOrders", name := "fair", desc := "(I)I" } : Jvm.MethodName) prog_1_method_22_code (3 : Nat) (Option.some Jvm.ClassFile.FieldType.int)) ∈ mw_tbl := mwt_4 18 rfl rfl
set_option maxRecDepth 100000 in
theorem v819 : (Jvm.Cond.methodLink "HalfOrdersLaw" (98 : Nat) ({ cls := "HalfOrders", name := "fair", desc := "(I)I" } : Jvm.MethodName)) ∈ mw_tbl := mwt_4 15 rfl rfl
set_option maxRecDepth 100000 in
theorem v820 : (Jvm.Cond.instanceMethod ({ cls := "HalfOrders", name := "fair", desc := "(I)I" } : Jvm.MethodName)) ∈ mw_tbl := mwt_4 16 rfl rfl
set_option maxRecDepth 100000 in
theorem v821 : (Jvm.Cond.selects "HalfOrders" ({ cls := "HalfOrders", name := "fair", desc := "(I)I" } : Jvm.MethodName) ({ cls := "HalfOrders", name := "fair", desc := "(I)I" } : Jvm.MethodName)) ∈ mw_tbl := mwt_4 17 rfl rfl
theorem ww_X11_fair : WW mi_X11_fair 98 1 := ⟨v822, v819, v85, v820, v821, ⟨by decide, by decide, by decide +kernel⟩, by decide⟩
set_option maxRecDepth 100000 in
theorem v1347 : (Jvm.Cond.code ({ cls := "HalfOrdersModel", name := "fair", desc := "(I)I" } : Jvm.MethodName) prog_14_method_39_code (6 : Nat) (Option.some Jvm.ClassFile.FieldType.int)) ∈ mw_tbl := mwt_6 63 rfl rfl
set_option maxRecDepth 100000 in
theorem v1344 : (Jvm.Cond.methodLink "HalfOrdersLaw" (101 : Nat) ({ cls := "HalfOrdersModel", name := "fair", desc := "(I)I" } : Jvm.MethodName)) ∈ mw_tbl := mwt_6 60 rfl rfl
set_option maxRecDepth 100000 in
theorem v1345 : (Jvm.Cond.instanceMethod ({ cls := "HalfOrdersModel", name := "fair", desc := "(I)I" } : Jvm.MethodName)) ∈ mw_tbl := mwt_6 61 rfl rfl
set_option maxRecDepth 100000 in
theorem v1346 : (Jvm.Cond.selects "HalfOrdersModel" ({ cls := "HalfOrdersModel", name := "fair", desc := "(I)I" } : Jvm.MethodName) ({ cls := "HalfOrdersModel", name := "fair", desc := "(I)I" } : Jvm.MethodName)) ∈ mw_tbl := mwt_6 62 rfl rfl
theorem ww_X12_fair : WW mi_X12_fair 101 1 := ⟨v1347, v1344, v92, v1345, v1346, ⟨by decide, by decide, by decide +kernel⟩, by decide⟩
def TL_821 : List (Nat × Instr × Nat) := [(821, .aload_n 1, 1), (822, .aload_n 0, 1), (823, .iload_n 3, 1), (824, .iconst 1, 1), (825, .iadd, 1), (826, .iaload, 1), (827, .invokevirtual 98, 3), (830, .aload_n 2, 1), (831, .aload_n 0, 1), (832, .iload_n 3, 1), (833, .iconst 1, 1), (834, .iadd, 1), (835, .iaload, 1), (836, .invokevirtual 101, 3), (839, .if_icmp .eq 586, 3), (842, .iconst 0, 1)]
set_option maxRecDepth 100000 in
theorem dtl_821 : ∀ q ∈ TL_821, decode code q.1 = .ok q.2 := by decide +kernel
set_option maxRecDepth 100000 in
theorem ad_822 : argD 822 1 := fun t ht => by
    have hh : t = 0 := by omega
    rcases hh with rfl
    · exact ⟨dtk dtl_821 1 (822, .aload_n 0, 1) rfl, dtk dtl_821 2 (823, .iload_n 3, 1) rfl, dtk dtl_821 3 (824, .iconst 1, 1) rfl, dtk dtl_821 4 (825, .iadd, 1) rfl, dtk dtl_821 5 (826, .iaload, 1) rfl⟩
set_option maxRecDepth 100000 in
theorem ad_831 : argD 831 1 := fun t ht => by
    have hh : t = 0 := by omega
    rcases hh with rfl
    · exact ⟨dtk dtl_821 8 (831, .aload_n 0, 1) rfl, dtk dtl_821 9 (832, .iload_n 3, 1) rfl, dtk dtl_821 10 (833, .iconst 1, 1) rfl, dtk dtl_821 11 (834, .iadd, 1) rfl, dtk dtl_821 12 (835, .iaload, 1) rfl⟩
set_option maxRecDepth 100000 in
theorem dec_821 : caseD 821 1 98 101 586 := ⟨dtk dtl_821 0 (821, .aload_n 1, 1) rfl, ad_822, dtk dtl_821 6 (827, .invokevirtual 98, 3) rfl, dtk dtl_821 7 (830, .aload_n 2, 1) rfl, ad_831, dtk dtl_821 13 (836, .invokevirtual 101, 3) rfl, dtk dtl_821 14 (839, .if_icmp .eq 586, 3) rfl, by decide⟩
set_option maxRecDepth 100000 in
theorem v832 : (Jvm.Cond.code ({ cls := "HalfOrders", name := "two", desc := "(III)I" } : Jvm.MethodName) prog_1_method_23_code (5 : Nat) (Option.some Jvm.ClassFile.FieldType.int)) ∈ mw_tbl := mwt_4 28 rfl rfl
set_option maxRecDepth 100000 in
theorem v829 : (Jvm.Cond.methodLink "HalfOrdersLaw" (102 : Nat) ({ cls := "HalfOrders", name := "two", desc := "(III)I" } : Jvm.MethodName)) ∈ mw_tbl := mwt_4 25 rfl rfl
set_option maxRecDepth 100000 in
theorem v830 : (Jvm.Cond.instanceMethod ({ cls := "HalfOrders", name := "two", desc := "(III)I" } : Jvm.MethodName)) ∈ mw_tbl := mwt_4 26 rfl rfl
set_option maxRecDepth 100000 in
theorem v831 : (Jvm.Cond.selects "HalfOrders" ({ cls := "HalfOrders", name := "two", desc := "(III)I" } : Jvm.MethodName) ({ cls := "HalfOrders", name := "two", desc := "(III)I" } : Jvm.MethodName)) ∈ mw_tbl := mwt_4 27 rfl rfl
theorem ww_X11_two : WW mi_X11_two 102 3 := ⟨v832, v829, v85, v830, v831, ⟨by decide, by decide, by decide +kernel⟩, by decide⟩
set_option maxRecDepth 100000 in
theorem v1390 : (Jvm.Cond.code ({ cls := "HalfOrdersModel", name := "two", desc := "(III)I" } : Jvm.MethodName) prog_14_method_51_code (4 : Nat) (Option.some Jvm.ClassFile.FieldType.int)) ∈ mw_tbl := mwt_6 106 rfl rfl
set_option maxRecDepth 100000 in
theorem v1387 : (Jvm.Cond.methodLink "HalfOrdersLaw" (105 : Nat) ({ cls := "HalfOrdersModel", name := "two", desc := "(III)I" } : Jvm.MethodName)) ∈ mw_tbl := mwt_6 103 rfl rfl
set_option maxRecDepth 100000 in
theorem v1388 : (Jvm.Cond.instanceMethod ({ cls := "HalfOrdersModel", name := "two", desc := "(III)I" } : Jvm.MethodName)) ∈ mw_tbl := mwt_6 104 rfl rfl
set_option maxRecDepth 100000 in
theorem v1389 : (Jvm.Cond.selects "HalfOrdersModel" ({ cls := "HalfOrdersModel", name := "two", desc := "(III)I" } : Jvm.MethodName) ({ cls := "HalfOrdersModel", name := "two", desc := "(III)I" } : Jvm.MethodName)) ∈ mw_tbl := mwt_6 105 rfl rfl
theorem ww_X12_two : WW mi_X12_two 105 3 := ⟨v1390, v1387, v92, v1388, v1389, ⟨by decide, by decide, by decide +kernel⟩, by decide⟩
def TL_844 : List (Nat × Instr × Nat) := [(844, .aload_n 1, 1), (845, .aload_n 0, 1), (846, .iload_n 3, 1), (847, .iconst 1, 1), (848, .iadd, 1), (849, .iaload, 1), (850, .aload_n 0, 1), (851, .iload_n 3, 1), (852, .iconst 2, 1), (853, .iadd, 1), (854, .iaload, 1), (855, .aload_n 0, 1), (856, .iload_n 3, 1), (857, .iconst 3, 1), (858, .iadd, 1), (859, .iaload, 1), (860, .invokevirtual 102, 3), (863, .aload_n 2, 1), (864, .aload_n 0, 1), (865, .iload_n 3, 1), (866, .iconst 1, 1), (867, .iadd, 1), (868, .iaload, 1), (869, .aload_n 0, 1), (870, .iload_n 3, 1), (871, .iconst 2, 1), (872, .iadd, 1), (873, .iaload, 1), (874, .aload_n 0, 1), (875, .iload_n 3, 1), (876, .iconst 3, 1), (877, .iadd, 1), (878, .iaload, 1), (879, .invokevirtual 105, 3), (882, .if_icmp .eq 543, 3), (885, .iconst 0, 1)]
set_option maxRecDepth 100000 in
theorem dtl_844 : ∀ q ∈ TL_844, decode code q.1 = .ok q.2 := by decide +kernel
set_option maxRecDepth 100000 in
theorem ad_845 : argD 845 3 := fun t ht => by
    have hh : t = 0 ∨ t = 1 ∨ t = 2 := by omega
    rcases hh with rfl | rfl | rfl
    · exact ⟨dtk dtl_844 1 (845, .aload_n 0, 1) rfl, dtk dtl_844 2 (846, .iload_n 3, 1) rfl, dtk dtl_844 3 (847, .iconst 1, 1) rfl, dtk dtl_844 4 (848, .iadd, 1) rfl, dtk dtl_844 5 (849, .iaload, 1) rfl⟩
    · exact ⟨dtk dtl_844 6 (850, .aload_n 0, 1) rfl, dtk dtl_844 7 (851, .iload_n 3, 1) rfl, dtk dtl_844 8 (852, .iconst 2, 1) rfl, dtk dtl_844 9 (853, .iadd, 1) rfl, dtk dtl_844 10 (854, .iaload, 1) rfl⟩
    · exact ⟨dtk dtl_844 11 (855, .aload_n 0, 1) rfl, dtk dtl_844 12 (856, .iload_n 3, 1) rfl, dtk dtl_844 13 (857, .iconst 3, 1) rfl, dtk dtl_844 14 (858, .iadd, 1) rfl, dtk dtl_844 15 (859, .iaload, 1) rfl⟩
set_option maxRecDepth 100000 in
theorem ad_864 : argD 864 3 := fun t ht => by
    have hh : t = 0 ∨ t = 1 ∨ t = 2 := by omega
    rcases hh with rfl | rfl | rfl
    · exact ⟨dtk dtl_844 18 (864, .aload_n 0, 1) rfl, dtk dtl_844 19 (865, .iload_n 3, 1) rfl, dtk dtl_844 20 (866, .iconst 1, 1) rfl, dtk dtl_844 21 (867, .iadd, 1) rfl, dtk dtl_844 22 (868, .iaload, 1) rfl⟩
    · exact ⟨dtk dtl_844 23 (869, .aload_n 0, 1) rfl, dtk dtl_844 24 (870, .iload_n 3, 1) rfl, dtk dtl_844 25 (871, .iconst 2, 1) rfl, dtk dtl_844 26 (872, .iadd, 1) rfl, dtk dtl_844 27 (873, .iaload, 1) rfl⟩
    · exact ⟨dtk dtl_844 28 (874, .aload_n 0, 1) rfl, dtk dtl_844 29 (875, .iload_n 3, 1) rfl, dtk dtl_844 30 (876, .iconst 3, 1) rfl, dtk dtl_844 31 (877, .iadd, 1) rfl, dtk dtl_844 32 (878, .iaload, 1) rfl⟩
set_option maxRecDepth 100000 in
theorem dec_844 : caseD 844 3 102 105 543 := ⟨dtk dtl_844 0 (844, .aload_n 1, 1) rfl, ad_845, dtk dtl_844 16 (860, .invokevirtual 102, 3) rfl, dtk dtl_844 17 (863, .aload_n 2, 1) rfl, ad_864, dtk dtl_844 33 (879, .invokevirtual 105, 3) rfl, dtk dtl_844 34 (882, .if_icmp .eq 543, 3) rfl, by decide⟩
set_option maxRecDepth 100000 in
theorem v851 : (Jvm.Cond.code ({ cls := "HalfOrders", name := "invert", desc := "(III)I" } : Jvm.MethodName) prog_1_method_24_code (5 : Nat) (Option.some Jvm.ClassFile.FieldType.int)) ∈ mw_tbl := mwt_4 47 rfl rfl
set_option maxRecDepth 100000 in
theorem v848 : (Jvm.Cond.methodLink "HalfOrdersLaw" (106 : Nat) ({ cls := "HalfOrders", name := "invert", desc := "(III)I" } : Jvm.MethodName)) ∈ mw_tbl := mwt_4 44 rfl rfl
set_option maxRecDepth 100000 in
theorem v849 : (Jvm.Cond.instanceMethod ({ cls := "HalfOrders", name := "invert", desc := "(III)I" } : Jvm.MethodName)) ∈ mw_tbl := mwt_4 45 rfl rfl
set_option maxRecDepth 100000 in
theorem v850 : (Jvm.Cond.selects "HalfOrders" ({ cls := "HalfOrders", name := "invert", desc := "(III)I" } : Jvm.MethodName) ({ cls := "HalfOrders", name := "invert", desc := "(III)I" } : Jvm.MethodName)) ∈ mw_tbl := mwt_4 46 rfl rfl
theorem ww_X11_invert : WW mi_X11_invert 106 3 := ⟨v851, v848, v85, v849, v850, ⟨by decide, by decide, by decide +kernel⟩, by decide⟩
set_option maxRecDepth 100000 in
theorem v1434 : (Jvm.Cond.code ({ cls := "HalfOrdersModel", name := "invert", desc := "(III)I" } : Jvm.MethodName) prog_14_method_60_code (8 : Nat) (Option.some Jvm.ClassFile.FieldType.int)) ∈ mw_tbl := mwt_6 150 rfl rfl
set_option maxRecDepth 100000 in
theorem v1431 : (Jvm.Cond.methodLink "HalfOrdersLaw" (109 : Nat) ({ cls := "HalfOrdersModel", name := "invert", desc := "(III)I" } : Jvm.MethodName)) ∈ mw_tbl := mwt_6 147 rfl rfl
set_option maxRecDepth 100000 in
theorem v1432 : (Jvm.Cond.instanceMethod ({ cls := "HalfOrdersModel", name := "invert", desc := "(III)I" } : Jvm.MethodName)) ∈ mw_tbl := mwt_6 148 rfl rfl
set_option maxRecDepth 100000 in
theorem v1433 : (Jvm.Cond.selects "HalfOrdersModel" ({ cls := "HalfOrdersModel", name := "invert", desc := "(III)I" } : Jvm.MethodName) ({ cls := "HalfOrdersModel", name := "invert", desc := "(III)I" } : Jvm.MethodName)) ∈ mw_tbl := mwt_6 149 rfl rfl
theorem ww_X12_invert : WW mi_X12_invert 109 3 := ⟨v1434, v1431, v92, v1432, v1433, ⟨by decide, by decide, by decide +kernel⟩, by decide⟩
def TL_887 : List (Nat × Instr × Nat) := [(887, .aload_n 1, 1), (888, .aload_n 0, 1), (889, .iload_n 3, 1), (890, .iconst 1, 1), (891, .iadd, 1), (892, .iaload, 1), (893, .aload_n 0, 1), (894, .iload_n 3, 1), (895, .iconst 2, 1), (896, .iadd, 1), (897, .iaload, 1), (898, .aload_n 0, 1), (899, .iload_n 3, 1), (900, .iconst 3, 1), (901, .iadd, 1), (902, .iaload, 1), (903, .invokevirtual 106, 3), (906, .aload_n 2, 1), (907, .aload_n 0, 1), (908, .iload_n 3, 1), (909, .iconst 1, 1), (910, .iadd, 1), (911, .iaload, 1), (912, .aload_n 0, 1), (913, .iload_n 3, 1), (914, .iconst 2, 1), (915, .iadd, 1), (916, .iaload, 1), (917, .aload_n 0, 1), (918, .iload_n 3, 1), (919, .iconst 3, 1), (920, .iadd, 1), (921, .iaload, 1), (922, .invokevirtual 109, 3), (925, .if_icmp .eq 500, 3), (928, .iconst 0, 1)]
set_option maxRecDepth 100000 in
theorem dtl_887 : ∀ q ∈ TL_887, decode code q.1 = .ok q.2 := by decide +kernel
set_option maxRecDepth 100000 in
theorem ad_888 : argD 888 3 := fun t ht => by
    have hh : t = 0 ∨ t = 1 ∨ t = 2 := by omega
    rcases hh with rfl | rfl | rfl
    · exact ⟨dtk dtl_887 1 (888, .aload_n 0, 1) rfl, dtk dtl_887 2 (889, .iload_n 3, 1) rfl, dtk dtl_887 3 (890, .iconst 1, 1) rfl, dtk dtl_887 4 (891, .iadd, 1) rfl, dtk dtl_887 5 (892, .iaload, 1) rfl⟩
    · exact ⟨dtk dtl_887 6 (893, .aload_n 0, 1) rfl, dtk dtl_887 7 (894, .iload_n 3, 1) rfl, dtk dtl_887 8 (895, .iconst 2, 1) rfl, dtk dtl_887 9 (896, .iadd, 1) rfl, dtk dtl_887 10 (897, .iaload, 1) rfl⟩
    · exact ⟨dtk dtl_887 11 (898, .aload_n 0, 1) rfl, dtk dtl_887 12 (899, .iload_n 3, 1) rfl, dtk dtl_887 13 (900, .iconst 3, 1) rfl, dtk dtl_887 14 (901, .iadd, 1) rfl, dtk dtl_887 15 (902, .iaload, 1) rfl⟩
set_option maxRecDepth 100000 in
theorem ad_907 : argD 907 3 := fun t ht => by
    have hh : t = 0 ∨ t = 1 ∨ t = 2 := by omega
    rcases hh with rfl | rfl | rfl
    · exact ⟨dtk dtl_887 18 (907, .aload_n 0, 1) rfl, dtk dtl_887 19 (908, .iload_n 3, 1) rfl, dtk dtl_887 20 (909, .iconst 1, 1) rfl, dtk dtl_887 21 (910, .iadd, 1) rfl, dtk dtl_887 22 (911, .iaload, 1) rfl⟩
    · exact ⟨dtk dtl_887 23 (912, .aload_n 0, 1) rfl, dtk dtl_887 24 (913, .iload_n 3, 1) rfl, dtk dtl_887 25 (914, .iconst 2, 1) rfl, dtk dtl_887 26 (915, .iadd, 1) rfl, dtk dtl_887 27 (916, .iaload, 1) rfl⟩
    · exact ⟨dtk dtl_887 28 (917, .aload_n 0, 1) rfl, dtk dtl_887 29 (918, .iload_n 3, 1) rfl, dtk dtl_887 30 (919, .iconst 3, 1) rfl, dtk dtl_887 31 (920, .iadd, 1) rfl, dtk dtl_887 32 (921, .iaload, 1) rfl⟩
set_option maxRecDepth 100000 in
theorem dec_887 : caseD 887 3 106 109 500 := ⟨dtk dtl_887 0 (887, .aload_n 1, 1) rfl, ad_888, dtk dtl_887 16 (903, .invokevirtual 106, 3) rfl, dtk dtl_887 17 (906, .aload_n 2, 1) rfl, ad_907, dtk dtl_887 33 (922, .invokevirtual 109, 3) rfl, dtk dtl_887 34 (925, .if_icmp .eq 500, 3) rfl, by decide⟩
set_option maxRecDepth 100000 in
theorem v866 : (Jvm.Cond.code ({ cls := "HalfOrders", name := "bound", desc := "(IIII)I" } : Jvm.MethodName) prog_1_method_25_code (6 : Nat) (Option.some Jvm.ClassFile.FieldType.int)) ∈ mw_tbl := mwt_4 62 rfl rfl
set_option maxRecDepth 100000 in
theorem v863 : (Jvm.Cond.methodLink "HalfOrdersLaw" (110 : Nat) ({ cls := "HalfOrders", name := "bound", desc := "(IIII)I" } : Jvm.MethodName)) ∈ mw_tbl := mwt_4 59 rfl rfl
set_option maxRecDepth 100000 in
theorem v864 : (Jvm.Cond.instanceMethod ({ cls := "HalfOrders", name := "bound", desc := "(IIII)I" } : Jvm.MethodName)) ∈ mw_tbl := mwt_4 60 rfl rfl
set_option maxRecDepth 100000 in
theorem v865 : (Jvm.Cond.selects "HalfOrders" ({ cls := "HalfOrders", name := "bound", desc := "(IIII)I" } : Jvm.MethodName) ({ cls := "HalfOrders", name := "bound", desc := "(IIII)I" } : Jvm.MethodName)) ∈ mw_tbl := mwt_4 61 rfl rfl
theorem ww_X11_bound : WW mi_X11_bound 110 4 := ⟨v866, v863, v85, v864, v865, ⟨by decide, by decide, by decide +kernel⟩, by decide⟩
set_option maxRecDepth 100000 in
theorem v1402 : (Jvm.Cond.code ({ cls := "HalfOrdersModel", name := "bound", desc := "(IIII)I" } : Jvm.MethodName) prog_14_method_54_code (5 : Nat) (Option.some Jvm.ClassFile.FieldType.int)) ∈ mw_tbl := mwt_6 118 rfl rfl
set_option maxRecDepth 100000 in
theorem v1399 : (Jvm.Cond.methodLink "HalfOrdersLaw" (114 : Nat) ({ cls := "HalfOrdersModel", name := "bound", desc := "(IIII)I" } : Jvm.MethodName)) ∈ mw_tbl := mwt_6 115 rfl rfl
set_option maxRecDepth 100000 in
theorem v1400 : (Jvm.Cond.instanceMethod ({ cls := "HalfOrdersModel", name := "bound", desc := "(IIII)I" } : Jvm.MethodName)) ∈ mw_tbl := mwt_6 116 rfl rfl
set_option maxRecDepth 100000 in
theorem v1401 : (Jvm.Cond.selects "HalfOrdersModel" ({ cls := "HalfOrdersModel", name := "bound", desc := "(IIII)I" } : Jvm.MethodName) ({ cls := "HalfOrdersModel", name := "bound", desc := "(IIII)I" } : Jvm.MethodName)) ∈ mw_tbl := mwt_6 117 rfl rfl
theorem ww_X12_bound : WW mi_X12_bound 114 4 := ⟨v1402, v1399, v92, v1400, v1401, ⟨by decide, by decide, by decide +kernel⟩, by decide⟩
def TL_930 : List (Nat × Instr × Nat) := [(930, .aload_n 1, 1), (931, .aload_n 0, 1), (932, .iload_n 3, 1), (933, .iconst 1, 1), (934, .iadd, 1), (935, .iaload, 1), (936, .aload_n 0, 1), (937, .iload_n 3, 1), (938, .iconst 2, 1), (939, .iadd, 1), (940, .iaload, 1), (941, .aload_n 0, 1), (942, .iload_n 3, 1), (943, .iconst 3, 1), (944, .iadd, 1), (945, .iaload, 1), (946, .aload_n 0, 1), (947, .iload_n 3, 1), (948, .iconst 4, 1), (949, .iadd, 1), (950, .iaload, 1), (951, .invokevirtual 110, 3), (954, .aload_n 2, 1), (955, .aload_n 0, 1), (956, .iload_n 3, 1), (957, .iconst 1, 1), (958, .iadd, 1), (959, .iaload, 1), (960, .aload_n 0, 1), (961, .iload_n 3, 1), (962, .iconst 2, 1), (963, .iadd, 1), (964, .iaload, 1), (965, .aload_n 0, 1), (966, .iload_n 3, 1), (967, .iconst 3, 1), (968, .iadd, 1), (969, .iaload, 1), (970, .aload_n 0, 1), (971, .iload_n 3, 1), (972, .iconst 4, 1), (973, .iadd, 1), (974, .iaload, 1), (975, .invokevirtual 114, 3), (978, .if_icmp .eq 447, 3), (981, .iconst 0, 1)]
set_option maxRecDepth 100000 in
theorem dtl_930 : ∀ q ∈ TL_930, decode code q.1 = .ok q.2 := by decide +kernel
set_option maxRecDepth 100000 in
theorem ad_931 : argD 931 4 := fun t ht => by
    have hh : t = 0 ∨ t = 1 ∨ t = 2 ∨ t = 3 := by omega
    rcases hh with rfl | rfl | rfl | rfl
    · exact ⟨dtk dtl_930 1 (931, .aload_n 0, 1) rfl, dtk dtl_930 2 (932, .iload_n 3, 1) rfl, dtk dtl_930 3 (933, .iconst 1, 1) rfl, dtk dtl_930 4 (934, .iadd, 1) rfl, dtk dtl_930 5 (935, .iaload, 1) rfl⟩
    · exact ⟨dtk dtl_930 6 (936, .aload_n 0, 1) rfl, dtk dtl_930 7 (937, .iload_n 3, 1) rfl, dtk dtl_930 8 (938, .iconst 2, 1) rfl, dtk dtl_930 9 (939, .iadd, 1) rfl, dtk dtl_930 10 (940, .iaload, 1) rfl⟩
    · exact ⟨dtk dtl_930 11 (941, .aload_n 0, 1) rfl, dtk dtl_930 12 (942, .iload_n 3, 1) rfl, dtk dtl_930 13 (943, .iconst 3, 1) rfl, dtk dtl_930 14 (944, .iadd, 1) rfl, dtk dtl_930 15 (945, .iaload, 1) rfl⟩
    · exact ⟨dtk dtl_930 16 (946, .aload_n 0, 1) rfl, dtk dtl_930 17 (947, .iload_n 3, 1) rfl, dtk dtl_930 18 (948, .iconst 4, 1) rfl, dtk dtl_930 19 (949, .iadd, 1) rfl, dtk dtl_930 20 (950, .iaload, 1) rfl⟩
set_option maxRecDepth 100000 in
theorem ad_955 : argD 955 4 := fun t ht => by
    have hh : t = 0 ∨ t = 1 ∨ t = 2 ∨ t = 3 := by omega
    rcases hh with rfl | rfl | rfl | rfl
    · exact ⟨dtk dtl_930 23 (955, .aload_n 0, 1) rfl, dtk dtl_930 24 (956, .iload_n 3, 1) rfl, dtk dtl_930 25 (957, .iconst 1, 1) rfl, dtk dtl_930 26 (958, .iadd, 1) rfl, dtk dtl_930 27 (959, .iaload, 1) rfl⟩
    · exact ⟨dtk dtl_930 28 (960, .aload_n 0, 1) rfl, dtk dtl_930 29 (961, .iload_n 3, 1) rfl, dtk dtl_930 30 (962, .iconst 2, 1) rfl, dtk dtl_930 31 (963, .iadd, 1) rfl, dtk dtl_930 32 (964, .iaload, 1) rfl⟩
    · exact ⟨dtk dtl_930 33 (965, .aload_n 0, 1) rfl, dtk dtl_930 34 (966, .iload_n 3, 1) rfl, dtk dtl_930 35 (967, .iconst 3, 1) rfl, dtk dtl_930 36 (968, .iadd, 1) rfl, dtk dtl_930 37 (969, .iaload, 1) rfl⟩
    · exact ⟨dtk dtl_930 38 (970, .aload_n 0, 1) rfl, dtk dtl_930 39 (971, .iload_n 3, 1) rfl, dtk dtl_930 40 (972, .iconst 4, 1) rfl, dtk dtl_930 41 (973, .iadd, 1) rfl, dtk dtl_930 42 (974, .iaload, 1) rfl⟩
set_option maxRecDepth 100000 in
theorem dec_930 : caseD 930 4 110 114 447 := ⟨dtk dtl_930 0 (930, .aload_n 1, 1) rfl, ad_931, dtk dtl_930 21 (951, .invokevirtual 110, 3) rfl, dtk dtl_930 22 (954, .aload_n 2, 1) rfl, ad_955, dtk dtl_930 43 (975, .invokevirtual 114, 3) rfl, dtk dtl_930 44 (978, .if_icmp .eq 447, 3) rfl, by decide⟩
set_option maxRecDepth 100000 in
theorem v872 : (Jvm.Cond.code ({ cls := "HalfOrders", name := "uneven", desc := "(I)I" } : Jvm.MethodName) prog_1_method_26_code (3 : Nat) (Option.some Jvm.ClassFile.FieldType.int)) ∈ mw_tbl := mwt_4 68 rfl rfl
set_option maxRecDepth 100000 in
theorem v869 : (Jvm.Cond.methodLink "HalfOrdersLaw" (115 : Nat) ({ cls := "HalfOrders", name := "uneven", desc := "(I)I" } : Jvm.MethodName)) ∈ mw_tbl := mwt_4 65 rfl rfl
set_option maxRecDepth 100000 in
theorem v870 : (Jvm.Cond.instanceMethod ({ cls := "HalfOrders", name := "uneven", desc := "(I)I" } : Jvm.MethodName)) ∈ mw_tbl := mwt_4 66 rfl rfl
set_option maxRecDepth 100000 in
theorem v871 : (Jvm.Cond.selects "HalfOrders" ({ cls := "HalfOrders", name := "uneven", desc := "(I)I" } : Jvm.MethodName) ({ cls := "HalfOrders", name := "uneven", desc := "(I)I" } : Jvm.MethodName)) ∈ mw_tbl := mwt_4 67 rfl rfl
theorem ww_X11_uneven : WW mi_X11_uneven 115 1 := ⟨v872, v869, v85, v870, v871, ⟨by decide, by decide, by decide +kernel⟩, by decide⟩
set_option maxRecDepth 100000 in
theorem v1414 : (Jvm.Cond.code ({ cls := "HalfOrdersModel", name := "uneven", desc := "(I)I" } : Jvm.MethodName) prog_14_method_57_code (2 : Nat) (Option.some Jvm.ClassFile.FieldType.int)) ∈ mw_tbl := mwt_6 130 rfl rfl
set_option maxRecDepth 100000 in
theorem v1411 : (Jvm.Cond.methodLink "HalfOrdersLaw" (118 : Nat) ({ cls := "HalfOrdersModel", name := "uneven", desc := "(I)I" } : Jvm.MethodName)) ∈ mw_tbl := mwt_6 127 rfl rfl
set_option maxRecDepth 100000 in
theorem v1412 : (Jvm.Cond.instanceMethod ({ cls := "HalfOrdersModel", name := "uneven", desc := "(I)I" } : Jvm.MethodName)) ∈ mw_tbl := mwt_6 128 rfl rfl
set_option maxRecDepth 100000 in
theorem v1413 : (Jvm.Cond.selects "HalfOrdersModel" ({ cls := "HalfOrdersModel", name := "uneven", desc := "(I)I" } : Jvm.MethodName) ({ cls := "HalfOrdersModel", name := "uneven", desc := "(I)I" } : Jvm.MethodName)) ∈ mw_tbl := mwt_6 129 rfl rfl
theorem ww_X12_uneven : WW mi_X12_uneven 118 1 := ⟨v1414, v1411, v92, v1412, v1413, ⟨by decide, by decide, by decide +kernel⟩, by decide⟩
def TL_983 : List (Nat × Instr × Nat) := [(983, .aload_n 1, 1), (984, .aload_n 0, 1), (985, .iload_n 3, 1), (986, .iconst 1, 1), (987, .iadd, 1), (988, .iaload, 1), (989, .invokevirtual 115, 3), (992, .aload_n 2, 1), (993, .aload_n 0, 1), (994, .iload_n 3, 1), (995, .iconst 1, 1), (996, .iadd, 1), (997, .iaload, 1), (998, .invokevirtual 118, 3), (1001, .if_icmp .eq 424, 3), (1004, .iconst 0, 1)]
set_option maxRecDepth 100000 in
theorem dtl_983 : ∀ q ∈ TL_983, decode code q.1 = .ok q.2 := by decide +kernel
set_option maxRecDepth 100000 in
theorem ad_984 : argD 984 1 := fun t ht => by
    have hh : t = 0 := by omega
    rcases hh with rfl
    · exact ⟨dtk dtl_983 1 (984, .aload_n 0, 1) rfl, dtk dtl_983 2 (985, .iload_n 3, 1) rfl, dtk dtl_983 3 (986, .iconst 1, 1) rfl, dtk dtl_983 4 (987, .iadd, 1) rfl, dtk dtl_983 5 (988, .iaload, 1) rfl⟩
set_option maxRecDepth 100000 in
theorem ad_993 : argD 993 1 := fun t ht => by
    have hh : t = 0 := by omega
    rcases hh with rfl
    · exact ⟨dtk dtl_983 8 (993, .aload_n 0, 1) rfl, dtk dtl_983 9 (994, .iload_n 3, 1) rfl, dtk dtl_983 10 (995, .iconst 1, 1) rfl, dtk dtl_983 11 (996, .iadd, 1) rfl, dtk dtl_983 12 (997, .iaload, 1) rfl⟩
set_option maxRecDepth 100000 in
theorem dec_983 : caseD 983 1 115 118 424 := ⟨dtk dtl_983 0 (983, .aload_n 1, 1) rfl, ad_984, dtk dtl_983 6 (989, .invokevirtual 115, 3) rfl, dtk dtl_983 7 (992, .aload_n 2, 1) rfl, ad_993, dtk dtl_983 13 (998, .invokevirtual 118, 3) rfl, dtk dtl_983 14 (1001, .if_icmp .eq 424, 3) rfl, by decide⟩
set_option maxRecDepth 100000 in
theorem v876 : (Jvm.Cond.code ({ cls := "HalfOrders", name := "bent", desc := "(I)I" } : Jvm.MethodName) prog_1_method_27_code (3 : Nat) (Option.some Jvm.ClassFile.FieldType.int)) ∈ mw_tbl := mwt_4 72 rfl rfl
set_option maxRecDepth 100000 in
theorem v873 : (Jvm.Cond.methodLink "HalfOrdersLaw" (119 : Nat) ({ cls := "HalfOrders", name := "bent", desc := "(I)I" } : Jvm.MethodName)) ∈ mw_tbl := mwt_4 69 rfl rfl
set_option maxRecDepth 100000 in
theorem v874 : (Jvm.Cond.instanceMethod ({ cls := "HalfOrders", name := "bent", desc := "(I)I" } : Jvm.MethodName)) ∈ mw_tbl := mwt_4 70 rfl rfl
set_option maxRecDepth 100000 in
theorem v875 : (Jvm.Cond.selects "HalfOrders" ({ cls := "HalfOrders", name := "bent", desc := "(I)I" } : Jvm.MethodName) ({ cls := "HalfOrders", name := "bent", desc := "(I)I" } : Jvm.MethodName)) ∈ mw_tbl := mwt_4 71 rfl rfl
theorem ww_X11_bent : WW mi_X11_bent 119 1 := ⟨v876, v873, v85, v874, v875, ⟨by decide, by decide, by decide +kernel⟩, by decide⟩
set_option maxRecDepth 100000 in
theorem v1426 : (Jvm.Cond.code ({ cls := "HalfOrdersModel", name := "bent", desc := "(I)I" } : Jvm.MethodName) prog_14_method_59_code (8 : Nat) (Option.some Jvm.ClassFile.FieldType.int)) ∈ mw_tbl := mwt_6 142 rfl rfl
set_option maxRecDepth 100000 in
theorem v1423 : (Jvm.Cond.methodLink "HalfOrdersLaw" (122 : Nat) ({ cls := "HalfOrdersModel", name := "bent", desc := "(I)I" } : Jvm.MethodName)) ∈ mw_tbl := mwt_6 139 rfl rfl
set_option maxRecDepth 100000 in
theorem v1424 : (Jvm.Cond.instanceMethod ({ cls := "HalfOrdersModel", name := "bent", desc := "(I)I" } : Jvm.MethodName)) ∈ mw_tbl := mwt_6 140 rfl rfl
set_option maxRecDepth 100000 in
theorem v1425 : (Jvm.Cond.selects "HalfOrdersModel" ({ cls := "HalfOrdersModel", name := "bent", desc := "(I)I" } : Jvm.MethodName) ({ cls := "HalfOrdersModel", name := "bent", desc := "(I)I" } : Jvm.MethodName)) ∈ mw_tbl := mwt_6 141 rfl rfl
theorem ww_X12_bent : WW mi_X12_bent 122 1 := ⟨v1426, v1423, v92, v1424, v1425, ⟨by decide, by decide, by decide +kernel⟩, by decide⟩
def TL_1006 : List (Nat × Instr × Nat) := [(1006, .aload_n 1, 1), (1007, .aload_n 0, 1), (1008, .iload_n 3, 1), (1009, .iconst 1, 1), (1010, .iadd, 1), (1011, .iaload, 1), (1012, .invokevirtual 119, 3), (1015, .aload_n 2, 1), (1016, .aload_n 0, 1), (1017, .iload_n 3, 1), (1018, .iconst 1, 1), (1019, .iadd, 1), (1020, .iaload, 1), (1021, .invokevirtual 122, 3), (1024, .if_icmp .eq 401, 3), (1027, .iconst 0, 1)]
set_option maxRecDepth 100000 in
theorem dtl_1006 : ∀ q ∈ TL_1006, decode code q.1 = .ok q.2 := by decide +kernel
set_option maxRecDepth 100000 in
theorem ad_1007 : argD 1007 1 := fun t ht => by
    have hh : t = 0 := by omega
    rcases hh with rfl
    · exact ⟨dtk dtl_1006 1 (1007, .aload_n 0, 1) rfl, dtk dtl_1006 2 (1008, .iload_n 3, 1) rfl, dtk dtl_1006 3 (1009, .iconst 1, 1) rfl, dtk dtl_1006 4 (1010, .iadd, 1) rfl, dtk dtl_1006 5 (1011, .iaload, 1) rfl⟩
set_option maxRecDepth 100000 in
theorem ad_1016 : argD 1016 1 := fun t ht => by
    have hh : t = 0 := by omega
    rcases hh with rfl
    · exact ⟨dtk dtl_1006 8 (1016, .aload_n 0, 1) rfl, dtk dtl_1006 9 (1017, .iload_n 3, 1) rfl, dtk dtl_1006 10 (1018, .iconst 1, 1) rfl, dtk dtl_1006 11 (1019, .iadd, 1) rfl, dtk dtl_1006 12 (1020, .iaload, 1) rfl⟩
set_option maxRecDepth 100000 in
theorem dec_1006 : caseD 1006 1 119 122 401 := ⟨dtk dtl_1006 0 (1006, .aload_n 1, 1) rfl, ad_1007, dtk dtl_1006 6 (1012, .invokevirtual 119, 3) rfl, dtk dtl_1006 7 (1015, .aload_n 2, 1) rfl, ad_1016, dtk dtl_1006 13 (1021, .invokevirtual 122, 3) rfl, dtk dtl_1006 14 (1024, .if_icmp .eq 401, 3) rfl, by decide⟩
set_option maxRecDepth 100000 in
theorem v880 : (Jvm.Cond.code ({ cls := "HalfOrders", name := "same", desc := "(III)I" } : Jvm.MethodName) prog_1_method_28_code (6 : Nat) (Option.some Jvm.ClassFile.FieldType.int)) ∈ mw_tbl := mwt_4 76 rfl rfl
set_option maxRecDepth 100000 in
theorem v877 : (Jvm.Cond.methodLink "HalfOrdersLaw" (123 : Nat) ({ cls := "HalfOrders", name := "same", desc := "(III)I" } : Jvm.MethodName)) ∈ mw_tbl := mwt_4 73 rfl rfl
set_option maxRecDepth 100000 in
theorem v878 : (Jvm.Cond.instanceMethod ({ cls := "HalfOrders", name := "same", desc := "(III)I" } : Jvm.MethodName)) ∈ mw_tbl := mwt_4 74 rfl rfl
set_option maxRecDepth 100000 in
theorem v879 : (Jvm.Cond.selects "HalfOrders" ({ cls := "HalfOrders", name := "same", desc := "(III)I" } : Jvm.MethodName) ({ cls := "HalfOrders", name := "same", desc := "(III)I" } : Jvm.MethodName)) ∈ mw_tbl := mwt_4 75 rfl rfl
theorem ww_X11_same : WW mi_X11_same 123 3 := ⟨v880, v877, v85, v878, v879, ⟨by decide, by decide, by decide +kernel⟩, by decide⟩
set_option maxRecDepth 100000 in
theorem v1439 : (Jvm.Cond.code ({ cls := "HalfOrdersModel", name := "same", desc := "(III)I" } : Jvm.MethodName) prog_14_method_64_code (7 : Nat) (Option.some Jvm.ClassFile.FieldType.int)) ∈ mw_tbl := mwt_6 155 rfl rfl
set_option maxRecDepth 100000 in
theorem v1436 : (Jvm.Cond.methodLink "HalfOrdersLaw" (126 : Nat) ({ cls := "HalfOrdersModel", name := "same", desc := "(III)I" } : Jvm.MethodName)) ∈ mw_tbl := mwt_6 152 rfl rfl
set_option maxRecDepth 100000 in
theorem v1437 : (Jvm.Cond.instanceMethod ({ cls := "HalfOrdersModel", name := "same", desc := "(III)I" } : Jvm.MethodName)) ∈ mw_tbl := mwt_6 153 rfl rfl
set_option maxRecDepth 100000 in
theorem v1438 : (Jvm.Cond.selects "HalfOrdersModel" ({ cls := "HalfOrdersModel", name := "same", desc := "(III)I" } : Jvm.MethodName) ({ cls := "HalfOrdersModel", name := "same", desc := "(III)I" } : Jvm.MethodName)) ∈ mw_tbl := mwt_6 154 rfl rfl
theorem ww_X12_same : WW mi_X12_same 126 3 := ⟨v1439, v1436, v92, v1437, v1438, ⟨by decide, by decide, by decide +kernel⟩, by decide⟩
def TL_1029 : List (Nat × Instr × Nat) := [(1029, .aload_n 1, 1), (1030, .aload_n 0, 1), (1031, .iload_n 3, 1), (1032, .iconst 1, 1), (1033, .iadd, 1), (1034, .iaload, 1), (1035, .aload_n 0, 1), (1036, .iload_n 3, 1), (1037, .iconst 2, 1), (1038, .iadd, 1), (1039, .iaload, 1), (1040, .aload_n 0, 1), (1041, .iload_n 3, 1), (1042, .iconst 3, 1), (1043, .iadd, 1), (1044, .iaload, 1), (1045, .invokevirtual 123, 3), (1048, .aload_n 2, 1), (1049, .aload_n 0, 1), (1050, .iload_n 3, 1), (1051, .iconst 1, 1), (1052, .iadd, 1), (1053, .iaload, 1), (1054, .aload_n 0, 1), (1055, .iload_n 3, 1), (1056, .iconst 2, 1), (1057, .iadd, 1), (1058, .iaload, 1), (1059, .aload_n 0, 1), (1060, .iload_n 3, 1), (1061, .iconst 3, 1), (1062, .iadd, 1), (1063, .iaload, 1), (1064, .invokevirtual 126, 3), (1067, .if_icmp .eq 358, 3), (1070, .iconst 0, 1)]
set_option maxRecDepth 100000 in
theorem dtl_1029 : ∀ q ∈ TL_1029, decode code q.1 = .ok q.2 := by decide +kernel
set_option maxRecDepth 100000 in
theorem ad_1030 : argD 1030 3 := fun t ht => by
    have hh : t = 0 ∨ t = 1 ∨ t = 2 := by omega
    rcases hh with rfl | rfl | rfl
    · exact ⟨dtk dtl_1029 1 (1030, .aload_n 0, 1) rfl, dtk dtl_1029 2 (1031, .iload_n 3, 1) rfl, dtk dtl_1029 3 (1032, .iconst 1, 1) rfl, dtk dtl_1029 4 (1033, .iadd, 1) rfl, dtk dtl_1029 5 (1034, .iaload, 1) rfl⟩
    · exact ⟨dtk dtl_1029 6 (1035, .aload_n 0, 1) rfl, dtk dtl_1029 7 (1036, .iload_n 3, 1) rfl, dtk dtl_1029 8 (1037, .iconst 2, 1) rfl, dtk dtl_1029 9 (1038, .iadd, 1) rfl, dtk dtl_1029 10 (1039, .iaload, 1) rfl⟩
    · exact ⟨dtk dtl_1029 11 (1040, .aload_n 0, 1) rfl, dtk dtl_1029 12 (1041, .iload_n 3, 1) rfl, dtk dtl_1029 13 (1042, .iconst 3, 1) rfl, dtk dtl_1029 14 (1043, .iadd, 1) rfl, dtk dtl_1029 15 (1044, .iaload, 1) rfl⟩
set_option maxRecDepth 100000 in
theorem ad_1049 : argD 1049 3 := fun t ht => by
    have hh : t = 0 ∨ t = 1 ∨ t = 2 := by omega
    rcases hh with rfl | rfl | rfl
    · exact ⟨dtk dtl_1029 18 (1049, .aload_n 0, 1) rfl, dtk dtl_1029 19 (1050, .iload_n 3, 1) rfl, dtk dtl_1029 20 (1051, .iconst 1, 1) rfl, dtk dtl_1029 21 (1052, .iadd, 1) rfl, dtk dtl_1029 22 (1053, .iaload, 1) rfl⟩
    · exact ⟨dtk dtl_1029 23 (1054, .aload_n 0, 1) rfl, dtk dtl_1029 24 (1055, .iload_n 3, 1) rfl, dtk dtl_1029 25 (1056, .iconst 2, 1) rfl, dtk dtl_1029 26 (1057, .iadd, 1) rfl, dtk dtl_1029 27 (1058, .iaload, 1) rfl⟩
    · exact ⟨dtk dtl_1029 28 (1059, .aload_n 0, 1) rfl, dtk dtl_1029 29 (1060, .iload_n 3, 1) rfl, dtk dtl_1029 30 (1061, .iconst 3, 1) rfl, dtk dtl_1029 31 (1062, .iadd, 1) rfl, dtk dtl_1029 32 (1063, .iaload, 1) rfl⟩
set_option maxRecDepth 100000 in
theorem dec_1029 : caseD 1029 3 123 126 358 := ⟨dtk dtl_1029 0 (1029, .aload_n 1, 1) rfl, ad_1030, dtk dtl_1029 16 (1045, .invokevirtual 123, 3) rfl, dtk dtl_1029 17 (1048, .aload_n 2, 1) rfl, ad_1049, dtk dtl_1029 33 (1064, .invokevirtual 126, 3) rfl, dtk dtl_1029 34 (1067, .if_icmp .eq 358, 3) rfl, by decide⟩
set_option maxRecDepth 100000 in
theorem v908 : (Jvm.Cond.code ({ cls := "HalfOrders", name := "lay", desc := "(II)I" } : Jvm.MethodName) prog_1_method_29_code (4 : Nat) (Option.some Jvm.ClassFile.FieldType.int)) ∈ mw_tbl := mwt_4 104 rfl rfl
set_option maxRecDepth 100000 in
theorem v905 : (Jvm.Cond.methodLink "HalfOrdersLaw" (127 : Nat) ({ cls := "HalfOrders", name := "lay", desc := "(II)I" } : Jvm.MethodName)) ∈ mw_tbl := mwt_4 101 rfl rfl
set_option maxRecDepth 100000 in
theorem v906 : (Jvm.Cond.instanceMethod ({ cls := "HalfOrders", name := "lay", desc := "(II)I" } : Jvm.MethodName)) ∈ mw_tbl := mwt_4 102 rfl rfl
set_option maxRecDepth 100000 in
theorem v907 : (Jvm.Cond.selects "HalfOrders" ({ cls := "HalfOrders", name := "lay", desc := "(II)I" } : Jvm.MethodName) ({ cls := "HalfOrders", name := "lay", desc := "(II)I" } : Jvm.MethodName)) ∈ mw_tbl := mwt_4 103 rfl rfl
theorem ww_X11_lay : WW mi_X11_lay 127 2 := ⟨v908, v905, v85, v906, v907, ⟨by decide, by decide, by decide +kernel⟩, by decide⟩
set_option maxRecDepth 100000 in
theorem v1492 : (Jvm.Cond.code ({ cls := "HalfOrdersModel", name := "lay", desc := "(II)I" } : Jvm.MethodName) prog_14_method_72_code (5 : Nat) (Option.some Jvm.ClassFile.FieldType.int)) ∈ mw_tbl := mwt_6 208 rfl rfl
set_option maxRecDepth 100000 in
theorem v1489 : (Jvm.Cond.methodLink "HalfOrdersLaw" (130 : Nat) ({ cls := "HalfOrdersModel", name := "lay", desc := "(II)I" } : Jvm.MethodName)) ∈ mw_tbl := mwt_6 205 rfl rfl
set_option maxRecDepth 100000 in
theorem v1490 : (Jvm.Cond.instanceMethod ({ cls := "HalfOrdersModel", name := "lay", desc := "(II)I" } : Jvm.MethodName)) ∈ mw_tbl := mwt_6 206 rfl rfl
set_option maxRecDepth 100000 in
theorem v1491 : (Jvm.Cond.selects "HalfOrdersModel" ({ cls := "HalfOrdersModel", name := "lay", desc := "(II)I" } : Jvm.MethodName) ({ cls := "HalfOrdersModel", name := "lay", desc := "(II)I" } : Jvm.MethodName)) ∈ mw_tbl := mwt_6 207 rfl rfl
theorem ww_X12_lay : WW mi_X12_lay 130 2 := ⟨v1492, v1489, v92, v1490, v1491, ⟨by decide, by decide, by decide +kernel⟩, by decide⟩
def TL_1072 : List (Nat × Instr × Nat) := [(1072, .aload_n 1, 1), (1073, .aload_n 0, 1), (1074, .iload_n 3, 1), (1075, .iconst 1, 1), (1076, .iadd, 1), (1077, .iaload, 1), (1078, .aload_n 0, 1), (1079, .iload_n 3, 1), (1080, .iconst 2, 1), (1081, .iadd, 1), (1082, .iaload, 1), (1083, .invokevirtual 127, 3), (1086, .aload_n 2, 1), (1087, .aload_n 0, 1), (1088, .iload_n 3, 1), (1089, .iconst 1, 1), (1090, .iadd, 1), (1091, .iaload, 1), (1092, .aload_n 0, 1), (1093, .iload_n 3, 1), (1094, .iconst 2, 1), (1095, .iadd, 1), (1096, .iaload, 1), (1097, .invokevirtual 130, 3), (1100, .if_icmp .eq 325, 3), (1103, .iconst 0, 1)]
set_option maxRecDepth 100000 in
theorem dtl_1072 : ∀ q ∈ TL_1072, decode code q.1 = .ok q.2 := by decide +kernel
set_option maxRecDepth 100000 in
theorem ad_1073 : argD 1073 2 := fun t ht => by
    have hh : t = 0 ∨ t = 1 := by omega
    rcases hh with rfl | rfl
    · exact ⟨dtk dtl_1072 1 (1073, .aload_n 0, 1) rfl, dtk dtl_1072 2 (1074, .iload_n 3, 1) rfl, dtk dtl_1072 3 (1075, .iconst 1, 1) rfl, dtk dtl_1072 4 (1076, .iadd, 1) rfl, dtk dtl_1072 5 (1077, .iaload, 1) rfl⟩
    · exact ⟨dtk dtl_1072 6 (1078, .aload_n 0, 1) rfl, dtk dtl_1072 7 (1079, .iload_n 3, 1) rfl, dtk dtl_1072 8 (1080, .iconst 2, 1) rfl, dtk dtl_1072 9 (1081, .iadd, 1) rfl, dtk dtl_1072 10 (1082, .iaload, 1) rfl⟩
set_option maxRecDepth 100000 in
theorem ad_1087 : argD 1087 2 := fun t ht => by
    have hh : t = 0 ∨ t = 1 := by omega
    rcases hh with rfl | rfl
    · exact ⟨dtk dtl_1072 13 (1087, .aload_n 0, 1) rfl, dtk dtl_1072 14 (1088, .iload_n 3, 1) rfl, dtk dtl_1072 15 (1089, .iconst 1, 1) rfl, dtk dtl_1072 16 (1090, .iadd, 1) rfl, dtk dtl_1072 17 (1091, .iaload, 1) rfl⟩
    · exact ⟨dtk dtl_1072 18 (1092, .aload_n 0, 1) rfl, dtk dtl_1072 19 (1093, .iload_n 3, 1) rfl, dtk dtl_1072 20 (1094, .iconst 2, 1) rfl, dtk dtl_1072 21 (1095, .iadd, 1) rfl, dtk dtl_1072 22 (1096, .iaload, 1) rfl⟩
set_option maxRecDepth 100000 in
theorem dec_1072 : caseD 1072 2 127 130 325 := ⟨dtk dtl_1072 0 (1072, .aload_n 1, 1) rfl, ad_1073, dtk dtl_1072 11 (1083, .invokevirtual 127, 3) rfl, dtk dtl_1072 12 (1086, .aload_n 2, 1) rfl, ad_1087, dtk dtl_1072 23 (1097, .invokevirtual 130, 3) rfl, dtk dtl_1072 24 (1100, .if_icmp .eq 325, 3) rfl, by decide⟩
set_option maxRecDepth 100000 in
theorem v917 : (Jvm.Cond.code ({ cls := "HalfOrders", name := "clear", desc := "()I" } : Jvm.MethodName) prog_1_method_30_code (2 : Nat) (Option.some Jvm.ClassFile.FieldType.int)) ∈ mw_tbl := mwt_4 113 rfl rfl
set_option maxRecDepth 100000 in
theorem v914 : (Jvm.Cond.methodLink "HalfOrdersLaw" (131 : Nat) ({ cls := "HalfOrders", name := "clear", desc := "()I" } : Jvm.MethodName)) ∈ mw_tbl := mwt_4 110 rfl rfl
set_option maxRecDepth 100000 in
theorem v915 : (Jvm.Cond.instanceMethod ({ cls := "HalfOrders", name := "clear", desc := "()I" } : Jvm.MethodName)) ∈ mw_tbl := mwt_4 111 rfl rfl
set_option maxRecDepth 100000 in
theorem v916 : (Jvm.Cond.selects "HalfOrders" ({ cls := "HalfOrders", name := "clear", desc := "()I" } : Jvm.MethodName) ({ cls := "HalfOrders", name := "clear", desc := "()I" } : Jvm.MethodName)) ∈ mw_tbl := mwt_4 112 rfl rfl
theorem ww_X11_clear : WW mi_X11_clear 131 0 := ⟨v917, v914, v85, v915, v916, ⟨by decide, by decide, by decide +kernel⟩, by decide⟩
set_option maxRecDepth 100000 in
theorem v1496 : (Jvm.Cond.code ({ cls := "HalfOrdersModel", name := "clear", desc := "()I" } : Jvm.MethodName) prog_14_method_73_code (2 : Nat) (Option.some Jvm.ClassFile.FieldType.int)) ∈ mw_tbl := mwt_6 212 rfl rfl
set_option maxRecDepth 100000 in
theorem v1493 : (Jvm.Cond.methodLink "HalfOrdersLaw" (134 : Nat) ({ cls := "HalfOrdersModel", name := "clear", desc := "()I" } : Jvm.MethodName)) ∈ mw_tbl := mwt_6 209 rfl rfl
set_option maxRecDepth 100000 in
theorem v1494 : (Jvm.Cond.instanceMethod ({ cls := "HalfOrdersModel", name := "clear", desc := "()I" } : Jvm.MethodName)) ∈ mw_tbl := mwt_6 210 rfl rfl
set_option maxRecDepth 100000 in
theorem v1495 : (Jvm.Cond.selects "HalfOrdersModel" ({ cls := "HalfOrdersModel", name := "clear", desc := "()I" } : Jvm.MethodName) ({ cls := "HalfOrdersModel", name := "clear", desc := "()I" } : Jvm.MethodName)) ∈ mw_tbl := mwt_6 211 rfl rfl
theorem ww_X12_clear : WW mi_X12_clear 134 0 := ⟨v1496, v1493, v92, v1494, v1495, ⟨by decide, by decide, by decide +kernel⟩, by decide⟩
def TL_1105 : List (Nat × Instr × Nat) := [(1105, .aload_n 1, 1), (1106, .invokevirtual 131, 3), (1109, .aload_n 2, 1), (1110, .invokevirtual 134, 3), (1113, .if_icmp .eq 312, 3), (1116, .iconst 0, 1)]
set_option maxRecDepth 100000 in
theorem dtl_1105 : ∀ q ∈ TL_1105, decode code q.1 = .ok q.2 := by decide +kernel
set_option maxRecDepth 100000 in
theorem ad_1106 : argD 1106 0 := fun t ht => absurd ht (Nat.not_lt_zero t)
set_option maxRecDepth 100000 in
theorem ad_1110 : argD 1110 0 := fun t ht => absurd ht (Nat.not_lt_zero t)
set_option maxRecDepth 100000 in
theorem dec_1105 : caseD 1105 0 131 134 312 := ⟨dtk dtl_1105 0 (1105, .aload_n 1, 1) rfl, ad_1106, dtk dtl_1105 1 (1106, .invokevirtual 131, 3) rfl, dtk dtl_1105 2 (1109, .aload_n 2, 1) rfl, ad_1110, dtk dtl_1105 3 (1110, .invokevirtual 134, 3) rfl, dtk dtl_1105 4 (1113, .if_icmp .eq 312, 3) rfl, by decide⟩
set_option maxRecDepth 100000 in
theorem v921 : (Jvm.Cond.code ({ cls := "HalfOrders", name := "hand", desc := "(I)I" } : Jvm.MethodName) prog_1_method_31_code (3 : Nat) (Option.some Jvm.ClassFile.FieldType.int)) ∈ mw_tbl := mwt_4 117 rfl rfl
set_option maxRecDepth 100000 in
theorem v918 : (Jvm.Cond.methodLink "HalfOrdersLaw" (135 : Nat) ({ cls := "HalfOrders", name := "hand", desc := "(I)I" } : Jvm.MethodName)) ∈ mw_tbl := mwt_4 114 rfl rfl
set_option maxRecDepth 100000 in
theorem v919 : (Jvm.Cond.instanceMethod ({ cls := "HalfOrders", name := "hand", desc := "(I)I" } : Jvm.MethodName)) ∈ mw_tbl := mwt_4 115 rfl rfl
set_option maxRecDepth 100000 in
theorem v920 : (Jvm.Cond.selects "HalfOrders" ({ cls := "HalfOrders", name := "hand", desc := "(I)I" } : Jvm.MethodName) ({ cls := "HalfOrders", name := "hand", desc := "(I)I" } : Jvm.MethodName)) ∈ mw_tbl := mwt_4 116 rfl rfl
theorem ww_X11_hand : WW mi_X11_hand 135 1 := ⟨v921, v918, v85, v919, v920, ⟨by decide, by decide, by decide +kernel⟩, by decide⟩
set_option maxRecDepth 100000 in
theorem v1500 : (Jvm.Cond.code ({ cls := "HalfOrdersModel", name := "hand", desc := "(I)I" } : Jvm.MethodName) prog_14_method_77_code (4 : Nat) (Option.some Jvm.ClassFile.FieldType.int)) ∈ mw_tbl := mwt_6 216 rfl rfl
set_option maxRecDepth 100000 in
theorem v1497 : (Jvm.Cond.methodLink "HalfOrdersLaw" (138 : Nat) ({ cls := "HalfOrdersModel", name := "hand", desc := "(I)I" } : Jvm.MethodName)) ∈ mw_tbl := mwt_6 213 rfl rfl
set_option maxRecDepth 100000 in
theorem v1498 : (Jvm.Cond.instanceMethod ({ cls := "HalfOrdersModel", name := "hand", desc := "(I)I" } : Jvm.MethodName)) ∈ mw_tbl := mwt_6 214 rfl rfl
set_option maxRecDepth 100000 in
theorem v1499 : (Jvm.Cond.selects "HalfOrdersModel" ({ cls := "HalfOrdersModel", name := "hand", desc := "(I)I" } : Jvm.MethodName) ({ cls := "HalfOrdersModel", name := "hand", desc := "(I)I" } : Jvm.MethodName)) ∈ mw_tbl := mwt_6 215 rfl rfl
theorem ww_X12_hand : WW mi_X12_hand 138 1 := ⟨v1500, v1497, v92, v1498, v1499, ⟨by decide, by decide, by decide +kernel⟩, by decide⟩
def TL_1118 : List (Nat × Instr × Nat) := [(1118, .aload_n 1, 1), (1119, .aload_n 0, 1), (1120, .iload_n 3, 1), (1121, .iconst 1, 1), (1122, .iadd, 1), (1123, .iaload, 1), (1124, .invokevirtual 135, 3), (1127, .aload_n 2, 1), (1128, .aload_n 0, 1), (1129, .iload_n 3, 1), (1130, .iconst 1, 1), (1131, .iadd, 1), (1132, .iaload, 1), (1133, .invokevirtual 138, 3), (1136, .if_icmp .eq 289, 3), (1139, .iconst 0, 1)]
set_option maxRecDepth 100000 in
theorem dtl_1118 : ∀ q ∈ TL_1118, decode code q.1 = .ok q.2 := by decide +kernel
set_option maxRecDepth 100000 in
theorem ad_1119 : argD 1119 1 := fun t ht => by
    have hh : t = 0 := by omega
    rcases hh with rfl
    · exact ⟨dtk dtl_1118 1 (1119, .aload_n 0, 1) rfl, dtk dtl_1118 2 (1120, .iload_n 3, 1) rfl, dtk dtl_1118 3 (1121, .iconst 1, 1) rfl, dtk dtl_1118 4 (1122, .iadd, 1) rfl, dtk dtl_1118 5 (1123, .iaload, 1) rfl⟩
set_option maxRecDepth 100000 in
theorem ad_1128 : argD 1128 1 := fun t ht => by
    have hh : t = 0 := by omega
    rcases hh with rfl
    · exact ⟨dtk dtl_1118 8 (1128, .aload_n 0, 1) rfl, dtk dtl_1118 9 (1129, .iload_n 3, 1) rfl, dtk dtl_1118 10 (1130, .iconst 1, 1) rfl, dtk dtl_1118 11 (1131, .iadd, 1) rfl, dtk dtl_1118 12 (1132, .iaload, 1) rfl⟩
set_option maxRecDepth 100000 in
theorem dec_1118 : caseD 1118 1 135 138 289 := ⟨dtk dtl_1118 0 (1118, .aload_n 1, 1) rfl, ad_1119, dtk dtl_1118 6 (1124, .invokevirtual 135, 3) rfl, dtk dtl_1118 7 (1127, .aload_n 2, 1) rfl, ad_1128, dtk dtl_1118 13 (1133, .invokevirtual 138, 3) rfl, dtk dtl_1118 14 (1136, .if_icmp .eq 289, 3) rfl, by decide⟩
set_option maxRecDepth 100000 in
theorem v945 : (Jvm.Cond.code ({ cls := "HalfOrders", name := "unlike", desc := "(I)I" } : Jvm.MethodName) prog_1_method_32_code (6 : Nat) (Option.some Jvm.ClassFile.FieldType.int)) ∈ mw_tbl := mwt_4 141 rfl rfl
set_option maxRecDepth 100000 in
theorem v942 : (Jvm.Cond.methodLink "HalfOrdersLaw" (139 : Nat) ({ cls := "HalfOrders", name := "unlike", desc := "(I)I" } : Jvm.MethodName)) ∈ mw_tbl := mwt_4 138 rfl rfl
set_option maxRecDepth 100000 in
theorem v943 : (Jvm.Cond.instanceMethod ({ cls := "HalfOrders", name := "unlike", desc := "(I)I" } : Jvm.MethodName)) ∈ mw_tbl := mwt_4 139 rfl rfl
set_option maxRecDepth 100000 in
theorem v944 : (Jvm.Cond.selects "HalfOrders" ({ cls := "HalfOrders", name := "unlike", desc := "(I)I" } : Jvm.MethodName) ({ cls := "HalfOrders", name := "unlike", desc := "(I)I" } : Jvm.MethodName)) ∈ mw_tbl := mwt_4 140 rfl rfl
theorem ww_X11_unlike : WW mi_X11_unlike 139 1 := ⟨v945, v942, v85, v943, v944, ⟨by decide, by decide, by decide +kernel⟩, by decide⟩
set_option maxRecDepth 100000 in
theorem v1516 : (Jvm.Cond.code ({ cls := "HalfOrdersModel", name := "unlike", desc := "(I)I" } : Jvm.MethodName) prog_14_method_79_code (5 : Nat) (Option.some Jvm.ClassFile.FieldType.int)) ∈ mw_tbl := mwt_6 232 rfl rfl
set_option maxRecDepth 100000 in
theorem v1513 : (Jvm.Cond.methodLink "HalfOrdersLaw" (142 : Nat) ({ cls := "HalfOrdersModel", name := "unlike", desc := "(I)I" } : Jvm.MethodName)) ∈ mw_tbl := mwt_6 229 rfl rfl
set_option maxRecDepth 100000 in
theorem v1514 : (Jvm.Cond.instanceMethod ({ cls := "HalfOrdersModel", name := "unlike", desc := "(I)I" } : Jvm.MethodName)) ∈ mw_tbl := mwt_6 230 rfl rfl
set_option maxRecDepth 100000 in
theorem v1515 : (Jvm.Cond.selects "HalfOrdersModel" ({ cls := "HalfOrdersModel", name := "unlike", desc := "(I)I" } : Jvm.MethodName) ({ cls := "HalfOrdersModel", name := "unlike", desc := "(I)I" } : Jvm.MethodName)) ∈ mw_tbl := mwt_6 231 rfl rfl
theorem ww_X12_unlike : WW mi_X12_unlike 142 1 := ⟨v1516, v1513, v92, v1514, v1515, ⟨by decide, by decide, by decide +kernel⟩, by decide⟩
def TL_1141 : List (Nat × Instr × Nat) := [(1141, .aload_n 1, 1), (1142, .aload_n 0, 1), (1143, .iload_n 3, 1), (1144, .iconst 1, 1), (1145, .iadd, 1), (1146, .iaload, 1), (1147, .invokevirtual 139, 3), (1150, .aload_n 2, 1), (1151, .aload_n 0, 1), (1152, .iload_n 3, 1), (1153, .iconst 1, 1), (1154, .iadd, 1), (1155, .iaload, 1), (1156, .invokevirtual 142, 3), (1159, .if_icmp .eq 266, 3), (1162, .iconst 0, 1)]
set_option maxRecDepth 100000 in
theorem dtl_1141 : ∀ q ∈ TL_1141, decode code q.1 = .ok q.2 := by decide +kernel
set_option maxRecDepth 100000 in
theorem ad_1142 : argD 1142 1 := fun t ht => by
    have hh : t = 0 := by omega
    rcases hh with rfl
    · exact ⟨dtk dtl_1141 1 (1142, .aload_n 0, 1) rfl, dtk dtl_1141 2 (1143, .iload_n 3, 1) rfl, dtk dtl_1141 3 (1144, .iconst 1, 1) rfl, dtk dtl_1141 4 (1145, .iadd, 1) rfl, dtk dtl_1141 5 (1146, .iaload, 1) rfl⟩
set_option maxRecDepth 100000 in
theorem ad_1151 : argD 1151 1 := fun t ht => by
    have hh : t = 0 := by omega
    rcases hh with rfl
    · exact ⟨dtk dtl_1141 8 (1151, .aload_n 0, 1) rfl, dtk dtl_1141 9 (1152, .iload_n 3, 1) rfl, dtk dtl_1141 10 (1153, .iconst 1, 1) rfl, dtk dtl_1141 11 (1154, .iadd, 1) rfl, dtk dtl_1141 12 (1155, .iaload, 1) rfl⟩
set_option maxRecDepth 100000 in
theorem dec_1141 : caseD 1141 1 139 142 266 := ⟨dtk dtl_1141 0 (1141, .aload_n 1, 1) rfl, ad_1142, dtk dtl_1141 6 (1147, .invokevirtual 139, 3) rfl, dtk dtl_1141 7 (1150, .aload_n 2, 1) rfl, ad_1151, dtk dtl_1141 13 (1156, .invokevirtual 142, 3) rfl, dtk dtl_1141 14 (1159, .if_icmp .eq 266, 3) rfl, by decide⟩
set_option maxRecDepth 100000 in
theorem v950 : (Jvm.Cond.code ({ cls := "HalfOrders", name := "act", desc := "(III)I" } : Jvm.MethodName) prog_1_method_33_code (5 : Nat) (Option.some Jvm.ClassFile.FieldType.int)) ∈ mw_tbl := mwt_4 146 rfl rfl
set_option maxRecDepth 100000 in
theorem v947 : (Jvm.Cond.methodLink "HalfOrdersLaw" (143 : Nat) ({ cls := "HalfOrders", name := "act", desc := "(III)I" } : Jvm.MethodName)) ∈ mw_tbl := mwt_4 143 rfl rfl
set_option maxRecDepth 100000 in
theorem v948 : (Jvm.Cond.instanceMethod ({ cls := "HalfOrders", name := "act", desc := "(III)I" } : Jvm.MethodName)) ∈ mw_tbl := mwt_4 144 rfl rfl
set_option maxRecDepth 100000 in
theorem v949 : (Jvm.Cond.selects "HalfOrders" ({ cls := "HalfOrders", name := "act", desc := "(III)I" } : Jvm.MethodName) ({ cls := "HalfOrders", name := "act", desc := "(III)I" } : Jvm.MethodName)) ∈ mw_tbl := mwt_4 145 rfl rfl
theorem ww_X11_act : WW mi_X11_act 143 3 := ⟨v950, v947, v85, v948, v949, ⟨by decide, by decide, by decide +kernel⟩, by decide⟩
set_option maxRecDepth 100000 in
theorem v1524 : (Jvm.Cond.code ({ cls := "HalfOrdersModel", name := "act", desc := "(III)I" } : Jvm.MethodName) prog_14_method_88_code (4 : Nat) (Option.some Jvm.ClassFile.FieldType.int)) ∈ mw_tbl := mwt_7 0 rfl rfl
set_option maxRecDepth 100000 in
theorem v1521 : (Jvm.Cond.methodLink "HalfOrdersLaw" (146 : Nat) ({ cls := "HalfOrdersModel", name := "act", desc := "(III)I" } : Jvm.MethodName)) ∈ mw_tbl := mwt_6 237 rfl rfl
set_option maxRecDepth 100000 in
theorem v1522 : (Jvm.Cond.instanceMethod ({ cls := "HalfOrdersModel", name := "act", desc := "(III)I" } : Jvm.MethodName)) ∈ mw_tbl := mwt_6 238 rfl rfl
set_option maxRecDepth 100000 in
theorem v1523 : (Jvm.Cond.selects "HalfOrdersModel" ({ cls := "HalfOrdersModel", name := "act", desc := "(III)I" } : Jvm.MethodName) ({ cls := "HalfOrdersModel", name := "act", desc := "(III)I" } : Jvm.MethodName)) ∈ mw_tbl := mwt_6 239 rfl rfl
theorem ww_X12_act : WW mi_X12_act 146 3 := ⟨v1524, v1521, v92, v1522, v1523, ⟨by decide, by decide, by decide +kernel⟩, by decide⟩
def TL_1164 : List (Nat × Instr × Nat) := [(1164, .aload_n 1, 1), (1165, .aload_n 0, 1), (1166, .iload_n 3, 1), (1167, .iconst 1, 1), (1168, .iadd, 1), (1169, .iaload, 1), (1170, .aload_n 0, 1), (1171, .iload_n 3, 1), (1172, .iconst 2, 1), (1173, .iadd, 1), (1174, .iaload, 1), (1175, .aload_n 0, 1), (1176, .iload_n 3, 1), (1177, .iconst 3, 1), (1178, .iadd, 1), (1179, .iaload, 1), (1180, .invokevirtual 143, 3), (1183, .aload_n 2, 1), (1184, .aload_n 0, 1), (1185, .iload_n 3, 1), (1186, .iconst 1, 1), (1187, .iadd, 1), (1188, .iaload, 1), (1189, .aload_n 0, 1), (1190, .iload_n 3, 1), (1191, .iconst 2, 1), (1192, .iadd, 1), (1193, .iaload, 1), (1194, .aload_n 0, 1), (1195, .iload_n 3, 1), (1196, .iconst 3, 1), (1197, .iadd, 1), (1198, .iaload, 1), (1199, .invokevirtual 146, 3), (1202, .if_icmp .eq 223, 3), (1205, .iconst 0, 1)]
set_option maxRecDepth 100000 in
theorem dtl_1164 : ∀ q ∈ TL_1164, decode code q.1 = .ok q.2 := by decide +kernel
set_option maxRecDepth 100000 in
theorem ad_1165 : argD 1165 3 := fun t ht => by
    have hh : t = 0 ∨ t = 1 ∨ t = 2 := by omega
    rcases hh with rfl | rfl | rfl
    · exact ⟨dtk dtl_1164 1 (1165, .aload_n 0, 1) rfl, dtk dtl_1164 2 (1166, .iload_n 3, 1) rfl, dtk dtl_1164 3 (1167, .iconst 1, 1) rfl, dtk dtl_1164 4 (1168, .iadd, 1) rfl, dtk dtl_1164 5 (1169, .iaload, 1) rfl⟩
    · exact ⟨dtk dtl_1164 6 (1170, .aload_n 0, 1) rfl, dtk dtl_1164 7 (1171, .iload_n 3, 1) rfl, dtk dtl_1164 8 (1172, .iconst 2, 1) rfl, dtk dtl_1164 9 (1173, .iadd, 1) rfl, dtk dtl_1164 10 (1174, .iaload, 1) rfl⟩
    · exact ⟨dtk dtl_1164 11 (1175, .aload_n 0, 1) rfl, dtk dtl_1164 12 (1176, .iload_n 3, 1) rfl, dtk dtl_1164 13 (1177, .iconst 3, 1) rfl, dtk dtl_1164 14 (1178, .iadd, 1) rfl, dtk dtl_1164 15 (1179, .iaload, 1) rfl⟩
set_option maxRecDepth 100000 in
theorem ad_1184 : argD 1184 3 := fun t ht => by
    have hh : t = 0 ∨ t = 1 ∨ t = 2 := by omega
    rcases hh with rfl | rfl | rfl
    · exact ⟨dtk dtl_1164 18 (1184, .aload_n 0, 1) rfl, dtk dtl_1164 19 (1185, .iload_n 3, 1) rfl, dtk dtl_1164 20 (1186, .iconst 1, 1) rfl, dtk dtl_1164 21 (1187, .iadd, 1) rfl, dtk dtl_1164 22 (1188, .iaload, 1) rfl⟩
    · exact ⟨dtk dtl_1164 23 (1189, .aload_n 0, 1) rfl, dtk dtl_1164 24 (1190, .iload_n 3, 1) rfl, dtk dtl_1164 25 (1191, .iconst 2, 1) rfl, dtk dtl_1164 26 (1192, .iadd, 1) rfl, dtk dtl_1164 27 (1193, .iaload, 1) rfl⟩
    · exact ⟨dtk dtl_1164 28 (1194, .aload_n 0, 1) rfl, dtk dtl_1164 29 (1195, .iload_n 3, 1) rfl, dtk dtl_1164 30 (1196, .iconst 3, 1) rfl, dtk dtl_1164 31 (1197, .iadd, 1) rfl, dtk dtl_1164 32 (1198, .iaload, 1) rfl⟩
set_option maxRecDepth 100000 in
theorem dec_1164 : caseD 1164 3 143 146 223 := ⟨dtk dtl_1164 0 (1164, .aload_n 1, 1) rfl, ad_1165, dtk dtl_1164 16 (1180, .invokevirtual 143, 3) rfl, dtk dtl_1164 17 (1183, .aload_n 2, 1) rfl, ad_1184, dtk dtl_1164 33 (1199, .invokevirtual 146, 3) rfl, dtk dtl_1164 34 (1202, .if_icmp .eq 223, 3) rfl, by decide⟩
set_option maxRecDepth 100000 in
theorem v1040 : (Jvm.Cond.code ({ cls := "HalfOrders", name := "trace", desc := "(I)I" } : Jvm.MethodName) prog_1_method_34_code (2 : Nat) (Option.some Jvm.ClassFile.FieldType.int)) ∈ mw_tbl := mwt_4 236 rfl rfl
set_option maxRecDepth 100000 in
theorem v1037 : (Jvm.Cond.methodLink "HalfOrdersLaw" (147 : Nat) ({ cls := "HalfOrders", name := "trace", desc := "(I)I" } : Jvm.MethodName)) ∈ mw_tbl := mwt_4 233 rfl rfl
set_option maxRecDepth 100000 in
theorem v1038 : (Jvm.Cond.instanceMethod ({ cls := "HalfOrders", name := "trace", desc := "(I)I" } : Jvm.MethodName)) ∈ mw_tbl := mwt_4 234 rfl rfl
set_option maxRecDepth 100000 in
theorem v1039 : (Jvm.Cond.selects "HalfOrders" ({ cls := "HalfOrders", name := "trace", desc := "(I)I" } : Jvm.MethodName) ({ cls := "HalfOrders", name := "trace", desc := "(I)I" } : Jvm.MethodName)) ∈ mw_tbl := mwt_4 235 rfl rfl
theorem ww_X11_trace : WW mi_X11_trace 147 1 := ⟨v1040, v1037, v85, v1038, v1039, ⟨by decide, by decide, by decide +kernel⟩, by decide⟩
set_option maxRecDepth 100000 in
theorem v1560 : (Jvm.Cond.code ({ cls := "HalfOrdersModel", name := "trace", desc := "(I)I" } : Jvm.MethodName) prog_14_method_89_code (2 : Nat) (Option.some Jvm.ClassFile.FieldType.int)) ∈ mw_tbl := mwt_7 36 rfl rfl
set_option maxRecDepth 100000 in
theorem v1557 : (Jvm.Cond.methodLink "HalfOrdersLaw" (150 : Nat) ({ cls := "HalfOrdersModel", name := "trace", desc := "(I)I" } : Jvm.MethodName)) ∈ mw_tbl := mwt_7 33 rfl rfl
set_option maxRecDepth 100000 in
theorem v1558 : (Jvm.Cond.instanceMethod ({ cls := "HalfOrdersModel", name := "trace", desc := "(I)I" } : Jvm.MethodName)) ∈ mw_tbl := mwt_7 34 rfl rfl
set_option maxRecDepth 100000 in
theorem v1559 : (Jvm.Cond.selects "HalfOrdersModel" ({ cls := "HalfOrdersModel", name := "trace", desc := "(I)I" } : Jvm.MethodName) ({ cls := "HalfOrdersModel", name := "trace", desc := "(I)I" } : Jvm.MethodName)) ∈ mw_tbl := mwt_7 35 rfl rfl
theorem ww_X12_trace : WW mi_X12_trace 150 1 := ⟨v1560, v1557, v92, v1558, v1559, ⟨by decide, by decide, by decide +kernel⟩, by decide⟩
def TL_1207 : List (Nat × Instr × Nat) := [(1207, .aload_n 1, 1), (1208, .aload_n 0, 1), (1209, .iload_n 3, 1), (1210, .iconst 1, 1), (1211, .iadd, 1), (1212, .iaload, 1), (1213, .invokevirtual 147, 3), (1216, .aload_n 2, 1), (1217, .aload_n 0, 1), (1218, .iload_n 3, 1), (1219, .iconst 1, 1), (1220, .iadd, 1), (1221, .iaload, 1), (1222, .invokevirtual 150, 3), (1225, .if_icmp .eq 200, 3), (1228, .iconst 0, 1)]
set_option maxRecDepth 100000 in
theorem dtl_1207 : ∀ q ∈ TL_1207, decode code q.1 = .ok q.2 := by decide +kernel
set_option maxRecDepth 100000 in
theorem ad_1208 : argD 1208 1 := fun t ht => by
    have hh : t = 0 := by omega
    rcases hh with rfl
    · exact ⟨dtk dtl_1207 1 (1208, .aload_n 0, 1) rfl, dtk dtl_1207 2 (1209, .iload_n 3, 1) rfl, dtk dtl_1207 3 (1210, .iconst 1, 1) rfl, dtk dtl_1207 4 (1211, .iadd, 1) rfl, dtk dtl_1207 5 (1212, .iaload, 1) rfl⟩
set_option maxRecDepth 100000 in
theorem ad_1217 : argD 1217 1 := fun t ht => by
    have hh : t = 0 := by omega
    rcases hh with rfl
    · exact ⟨dtk dtl_1207 8 (1217, .aload_n 0, 1) rfl, dtk dtl_1207 9 (1218, .iload_n 3, 1) rfl, dtk dtl_1207 10 (1219, .iconst 1, 1) rfl, dtk dtl_1207 11 (1220, .iadd, 1) rfl, dtk dtl_1207 12 (1221, .iaload, 1) rfl⟩
set_option maxRecDepth 100000 in
theorem dec_1207 : caseD 1207 1 147 150 200 := ⟨dtk dtl_1207 0 (1207, .aload_n 1, 1) rfl, ad_1208, dtk dtl_1207 6 (1213, .invokevirtual 147, 3) rfl, dtk dtl_1207 7 (1216, .aload_n 2, 1) rfl, ad_1217, dtk dtl_1207 13 (1222, .invokevirtual 150, 3) rfl, dtk dtl_1207 14 (1225, .if_icmp .eq 200, 3) rfl, by decide⟩
set_option maxRecDepth 100000 in
theorem v1044 : (Jvm.Cond.code ({ cls := "HalfOrders", name := "sheet", desc := "(III)I" } : Jvm.MethodName) prog_1_method_35_code (5 : Nat) (Option.some Jvm.ClassFile.FieldType.int)) ∈ mw_tbl := mwt_5 0 rfl rfl
set_option maxRecDepth 100000 in
theorem v1041 : (Jvm.Cond.methodLink "HalfOrdersLaw" (151 : Nat) ({ cls := "HalfOrders", name := "sheet", desc := "(III)I" } : Jvm.MethodName)) ∈ mw_tbl := mwt_4 237 rfl rfl
set_option maxRecDepth 100000 in
theorem v1042 : (Jvm.Cond.instanceMethod ({ cls := "HalfOrders", name := "sheet", desc := "(III)I" } : Jvm.MethodName)) ∈ mw_tbl := mwt_4 238 rfl rfl
set_option maxRecDepth 100000 in
theorem v1043 : (Jvm.Cond.selects "HalfOrders" ({ cls := "HalfOrders", name := "sheet", desc := "(III)I" } : Jvm.MethodName) ({ cls := "HalfOrders", name := "sheet", desc := "(III)I" } : Jvm.MethodName)) ∈ mw_tbl := mwt_4 239 rfl rfl
theorem ww_X11_sheet : WW mi_X11_sheet 151 3 := ⟨v1044, v1041, v85, v1042, v1043, ⟨by decide, by decide, by decide +kernel⟩, by decide⟩
set_option maxRecDepth 100000 in
theorem v1564 : (Jvm.Cond.code ({ cls := "HalfOrdersModel", name := "sheet", desc := "(III)I" } : Jvm.MethodName) prog_14_method_90_code (5 : Nat) (Option.some Jvm.ClassFile.FieldType.int)) ∈ mw_tbl := mwt_7 40 rfl rfl
set_option maxRecDepth 100000 in
theorem v1561 : (Jvm.Cond.methodLink "HalfOrdersLaw" (154 : Nat) ({ cls := "HalfOrdersModel", name := "sheet", desc := "(III)I" } : Jvm.MethodName)) ∈ mw_tbl := mwt_7 37 rfl rfl
set_option maxRecDepth 100000 in
theorem v1562 : (Jvm.Cond.instanceMethod ({ cls := "HalfOrdersModel", name := "sheet", desc := "(III)I" } : Jvm.MethodName)) ∈ mw_tbl := mwt_7 38 rfl rfl
set_option maxRecDepth 100000 in
theorem v1563 : (Jvm.Cond.selects "HalfOrdersModel" ({ cls := "HalfOrdersModel", name := "sheet", desc := "(III)I" } : Jvm.MethodName) ({ cls := "HalfOrdersModel", name := "sheet", desc := "(III)I" } : Jvm.MethodName)) ∈ mw_tbl := mwt_7 39 rfl rfl
theorem ww_X12_sheet : WW mi_X12_sheet 154 3 := ⟨v1564, v1561, v92, v1562, v1563, ⟨by decide, by decide, by decide +kernel⟩, by decide⟩
def TL_1230 : List (Nat × Instr × Nat) := [(1230, .aload_n 1, 1), (1231, .aload_n 0, 1), (1232, .iload_n 3, 1), (1233, .iconst 1, 1), (1234, .iadd, 1), (1235, .iaload, 1), (1236, .aload_n 0, 1), (1237, .iload_n 3, 1), (1238, .iconst 2, 1), (1239, .iadd, 1), (1240, .iaload, 1), (1241, .aload_n 0, 1), (1242, .iload_n 3, 1), (1243, .iconst 3, 1), (1244, .iadd, 1), (1245, .iaload, 1), (1246, .invokevirtual 151, 3), (1249, .aload_n 2, 1), (1250, .aload_n 0, 1), (1251, .iload_n 3, 1), (1252, .iconst 1, 1), (1253, .iadd, 1), (1254, .iaload, 1), (1255, .aload_n 0, 1), (1256, .iload_n 3, 1), (1257, .iconst 2, 1), (1258, .iadd, 1), (1259, .iaload, 1), (1260, .aload_n 0, 1), (1261, .iload_n 3, 1), (1262, .iconst 3, 1), (1263, .iadd, 1), (1264, .iaload, 1), (1265, .invokevirtual 154, 3), (1268, .if_icmp .eq 157, 3), (1271, .iconst 0, 1)]
set_option maxRecDepth 100000 in
theorem dtl_1230 : ∀ q ∈ TL_1230, decode code q.1 = .ok q.2 := by decide +kernel
set_option maxRecDepth 100000 in
theorem ad_1231 : argD 1231 3 := fun t ht => by
    have hh : t = 0 ∨ t = 1 ∨ t = 2 := by omega
    rcases hh with rfl | rfl | rfl
    · exact ⟨dtk dtl_1230 1 (1231, .aload_n 0, 1) rfl, dtk dtl_1230 2 (1232, .iload_n 3, 1) rfl, dtk dtl_1230 3 (1233, .iconst 1, 1) rfl, dtk dtl_1230 4 (1234, .iadd, 1) rfl, dtk dtl_1230 5 (1235, .iaload, 1) rfl⟩
    · exact ⟨dtk dtl_1230 6 (1236, .aload_n 0, 1) rfl, dtk dtl_1230 7 (1237, .iload_n 3, 1) rfl, dtk dtl_1230 8 (1238, .iconst 2, 1) rfl, dtk dtl_1230 9 (1239, .iadd, 1) rfl, dtk dtl_1230 10 (1240, .iaload, 1) rfl⟩
    · exact ⟨dtk dtl_1230 11 (1241, .aload_n 0, 1) rfl, dtk dtl_1230 12 (1242, .iload_n 3, 1) rfl, dtk dtl_1230 13 (1243, .iconst 3, 1) rfl, dtk dtl_1230 14 (1244, .iadd, 1) rfl, dtk dtl_1230 15 (1245, .iaload, 1) rfl⟩
set_option maxRecDepth 100000 in
theorem ad_1250 : argD 1250 3 := fun t ht => by
    have hh : t = 0 ∨ t = 1 ∨ t = 2 := by omega
    rcases hh with rfl | rfl | rfl
    · exact ⟨dtk dtl_1230 18 (1250, .aload_n 0, 1) rfl, dtk dtl_1230 19 (1251, .iload_n 3, 1) rfl, dtk dtl_1230 20 (1252, .iconst 1, 1) rfl, dtk dtl_1230 21 (1253, .iadd, 1) rfl, dtk dtl_1230 22 (1254, .iaload, 1) rfl⟩
    · exact ⟨dtk dtl_1230 23 (1255, .aload_n 0, 1) rfl, dtk dtl_1230 24 (1256, .iload_n 3, 1) rfl, dtk dtl_1230 25 (1257, .iconst 2, 1) rfl, dtk dtl_1230 26 (1258, .iadd, 1) rfl, dtk dtl_1230 27 (1259, .iaload, 1) rfl⟩
    · exact ⟨dtk dtl_1230 28 (1260, .aload_n 0, 1) rfl, dtk dtl_1230 29 (1261, .iload_n 3, 1) rfl, dtk dtl_1230 30 (1262, .iconst 3, 1) rfl, dtk dtl_1230 31 (1263, .iadd, 1) rfl, dtk dtl_1230 32 (1264, .iaload, 1) rfl⟩
set_option maxRecDepth 100000 in
theorem dec_1230 : caseD 1230 3 151 154 157 := ⟨dtk dtl_1230 0 (1230, .aload_n 1, 1) rfl, ad_1231, dtk dtl_1230 16 (1246, .invokevirtual 151, 3) rfl, dtk dtl_1230 17 (1249, .aload_n 2, 1) rfl, ad_1250, dtk dtl_1230 33 (1265, .invokevirtual 154, 3) rfl, dtk dtl_1230 34 (1268, .if_icmp .eq 157, 3) rfl, by decide⟩
set_option maxRecDepth 100000 in
theorem v1058 : (Jvm.Cond.code ({ cls := "HalfOrders", name := "cell", desc := "(III)I" } : Jvm.MethodName) prog_1_method_36_code (5 : Nat) (Option.some Jvm.ClassFile.FieldType.int)) ∈ mw_tbl := mwt_5 14 rfl rfl
set_option maxRecDepth 100000 in
theorem v1055 : (Jvm.Cond.methodLink "HalfOrdersLaw" (155 : Nat) ({ cls := "HalfOrders", name := "cell", desc := "(III)I" } : Jvm.MethodName)) ∈ mw_tbl := mwt_5 11 rfl rfl
set_option maxRecDepth 100000 in
theorem v1056 : (Jvm.Cond.instanceMethod ({ cls := "HalfOrders", name := "cell", desc := "(III)I" } : Jvm.MethodName)) ∈ mw_tbl := mwt_5 12 rfl rfl
set_option maxRecDepth 100000 in
theorem v1057 : (Jvm.Cond.selects "HalfOrders" ({ cls := "HalfOrders", name := "cell", desc := "(III)I" } : Jvm.MethodName) ({ cls := "HalfOrders", name := "cell", desc := "(III)I" } : Jvm.MethodName)) ∈ mw_tbl := mwt_5 13 rfl rfl
theorem ww_X11_cell : WW mi_X11_cell 155 3 := ⟨v1058, v1055, v85, v1056, v1057, ⟨by decide, by decide, by decide +kernel⟩, by decide⟩
set_option maxRecDepth 100000 in
theorem v1568 : (Jvm.Cond.code ({ cls := "HalfOrdersModel", name := "cell", desc := "(III)I" } : Jvm.MethodName) prog_14_method_91_code (4 : Nat) (Option.some Jvm.ClassFile.FieldType.int)) ∈ mw_tbl := mwt_7 44 rfl rfl
set_option maxRecDepth 100000 in
theorem v1565 : (Jvm.Cond.methodLink "HalfOrdersLaw" (158 : Nat) ({ cls := "HalfOrdersModel", name := "cell", desc := "(III)I" } : Jvm.MethodName)) ∈ mw_tbl := mwt_7 41 rfl rfl
set_option maxRecDepth 100000 in
theorem v1566 : (Jvm.Cond.instanceMethod ({ cls := "HalfOrdersModel", name := "cell", desc := "(III)I" } : Jvm.MethodName)) ∈ mw_tbl := mwt_7 42 rfl rfl
set_option maxRecDepth 100000 in
theorem v1567 : (Jvm.Cond.selects "HalfOrdersModel" ({ cls := "HalfOrdersModel", name := "cell", desc := "(III)I" } : Jvm.MethodName) ({ cls := "HalfOrdersModel", name := "cell", desc := "(III)I" } : Jvm.MethodName)) ∈ mw_tbl := mwt_7 43 rfl rfl
theorem ww_X12_cell : WW mi_X12_cell 158 3 := ⟨v1568, v1565, v92, v1566, v1567, ⟨by decide, by decide, by decide +kernel⟩, by decide⟩
def TL_1273 : List (Nat × Instr × Nat) := [(1273, .aload_n 1, 1), (1274, .aload_n 0, 1), (1275, .iload_n 3, 1), (1276, .iconst 1, 1), (1277, .iadd, 1), (1278, .iaload, 1), (1279, .aload_n 0, 1), (1280, .iload_n 3, 1), (1281, .iconst 2, 1), (1282, .iadd, 1), (1283, .iaload, 1), (1284, .aload_n 0, 1), (1285, .iload_n 3, 1), (1286, .iconst 3, 1), (1287, .iadd, 1), (1288, .iaload, 1), (1289, .invokevirtual 155, 3), (1292, .aload_n 2, 1), (1293, .aload_n 0, 1), (1294, .iload_n 3, 1), (1295, .iconst 1, 1), (1296, .iadd, 1), (1297, .iaload, 1), (1298, .aload_n 0, 1), (1299, .iload_n 3, 1), (1300, .iconst 2, 1), (1301, .iadd, 1), (1302, .iaload, 1), (1303, .aload_n 0, 1), (1304, .iload_n 3, 1), (1305, .iconst 3, 1), (1306, .iadd, 1), (1307, .iaload, 1), (1308, .invokevirtual 158, 3), (1311, .if_icmp .eq 114, 3), (1314, .iconst 0, 1)]
set_option maxRecDepth 100000 in
theorem dtl_1273 : ∀ q ∈ TL_1273, decode code q.1 = .ok q.2 := by decide +kernel
set_option maxRecDepth 100000 in
theorem ad_1274 : argD 1274 3 := fun t ht => by
    have hh : t = 0 ∨ t = 1 ∨ t = 2 := by omega
    rcases hh with rfl | rfl | rfl
    · exact ⟨dtk dtl_1273 1 (1274, .aload_n 0, 1) rfl, dtk dtl_1273 2 (1275, .iload_n 3, 1) rfl, dtk dtl_1273 3 (1276, .iconst 1, 1) rfl, dtk dtl_1273 4 (1277, .iadd, 1) rfl, dtk dtl_1273 5 (1278, .iaload, 1) rfl⟩
    · exact ⟨dtk dtl_1273 6 (1279, .aload_n 0, 1) rfl, dtk dtl_1273 7 (1280, .iload_n 3, 1) rfl, dtk dtl_1273 8 (1281, .iconst 2, 1) rfl, dtk dtl_1273 9 (1282, .iadd, 1) rfl, dtk dtl_1273 10 (1283, .iaload, 1) rfl⟩
    · exact ⟨dtk dtl_1273 11 (1284, .aload_n 0, 1) rfl, dtk dtl_1273 12 (1285, .iload_n 3, 1) rfl, dtk dtl_1273 13 (1286, .iconst 3, 1) rfl, dtk dtl_1273 14 (1287, .iadd, 1) rfl, dtk dtl_1273 15 (1288, .iaload, 1) rfl⟩
set_option maxRecDepth 100000 in
theorem ad_1293 : argD 1293 3 := fun t ht => by
    have hh : t = 0 ∨ t = 1 ∨ t = 2 := by omega
    rcases hh with rfl | rfl | rfl
    · exact ⟨dtk dtl_1273 18 (1293, .aload_n 0, 1) rfl, dtk dtl_1273 19 (1294, .iload_n 3, 1) rfl, dtk dtl_1273 20 (1295, .iconst 1, 1) rfl, dtk dtl_1273 21 (1296, .iadd, 1) rfl, dtk dtl_1273 22 (1297, .iaload, 1) rfl⟩
    · exact ⟨dtk dtl_1273 23 (1298, .aload_n 0, 1) rfl, dtk dtl_1273 24 (1299, .iload_n 3, 1) rfl, dtk dtl_1273 25 (1300, .iconst 2, 1) rfl, dtk dtl_1273 26 (1301, .iadd, 1) rfl, dtk dtl_1273 27 (1302, .iaload, 1) rfl⟩
    · exact ⟨dtk dtl_1273 28 (1303, .aload_n 0, 1) rfl, dtk dtl_1273 29 (1304, .iload_n 3, 1) rfl, dtk dtl_1273 30 (1305, .iconst 3, 1) rfl, dtk dtl_1273 31 (1306, .iadd, 1) rfl, dtk dtl_1273 32 (1307, .iaload, 1) rfl⟩
set_option maxRecDepth 100000 in
theorem dec_1273 : caseD 1273 3 155 158 114 := ⟨dtk dtl_1273 0 (1273, .aload_n 1, 1) rfl, ad_1274, dtk dtl_1273 16 (1289, .invokevirtual 155, 3) rfl, dtk dtl_1273 17 (1292, .aload_n 2, 1) rfl, ad_1293, dtk dtl_1273 33 (1308, .invokevirtual 158, 3) rfl, dtk dtl_1273 34 (1311, .if_icmp .eq 114, 3) rfl, by decide⟩
set_option maxRecDepth 100000 in
theorem v1070 : (Jvm.Cond.code ({ cls := "HalfOrders", name := "pairs", desc := "(IIII)I" } : Jvm.MethodName) prog_1_method_37_code (8 : Nat) (Option.some Jvm.ClassFile.FieldType.int)) ∈ mw_tbl := mwt_5 26 rfl rfl
set_option maxRecDepth 100000 in
theorem v1067 : (Jvm.Cond.methodLink "HalfOrdersLaw" (159 : Nat) ({ cls := "HalfOrders", name := "pairs", desc := "(IIII)I" } : Jvm.MethodName)) ∈ mw_tbl := mwt_5 23 rfl rfl
set_option maxRecDepth 100000 in
theorem v1068 : (Jvm.Cond.instanceMethod ({ cls := "HalfOrders", name := "pairs", desc := "(IIII)I" } : Jvm.MethodName)) ∈ mw_tbl := mwt_5 24 rfl rfl
set_option maxRecDepth 100000 in
theorem v1069 : (Jvm.Cond.selects "HalfOrders" ({ cls := "HalfOrders", name := "pairs", desc := "(IIII)I" } : Jvm.MethodName) ({ cls := "HalfOrders", name := "pairs", desc := "(IIII)I" } : Jvm.MethodName)) ∈ mw_tbl := mwt_5 25 rfl rfl
theorem ww_X11_pairs : WW mi_X11_pairs 159 4 := ⟨v1070, v1067, v85, v1068, v1069, ⟨by decide, by decide, by decide +kernel⟩, by decide⟩
set_option maxRecDepth 100000 in
theorem v1572 : (Jvm.Cond.code ({ cls := "HalfOrdersModel", name := "pairs", desc := "(IIII)I" } : Jvm.MethodName) prog_14_method_92_code (6 : Nat) (Option.some Jvm.ClassFile.FieldType.int)) ∈ mw_tbl := mwt_7 48 rfl rfl
set_option maxRecDepth 100000 in
theorem v1569 : (Jvm.Cond.methodLink "HalfOrdersLaw" (162 : Nat) ({ cls := "HalfOrdersModel", name := "pairs", desc := "(IIII)I" } : Jvm.MethodName)) ∈ mw_tbl := mwt_7 45 rfl rfl
set_option maxRecDepth 100000 in
theorem v1570 : (Jvm.Cond.instanceMethod ({ cls := "HalfOrdersModel", name := "pairs", desc := "(IIII)I" } : Jvm.MethodName)) ∈ mw_tbl := mwt_7 46 rfl rfl
set_option maxRecDepth 100000 in
theorem v1571 : (Jvm.Cond.selects "HalfOrdersModel" ({ cls := "HalfOrdersModel", name := "pairs", desc := "(IIII)I" } : Jvm.MethodName) ({ cls := "HalfOrdersModel", name := "pairs", desc := "(IIII)I" } : Jvm.MethodName)) ∈ mw_tbl := mwt_7 47 rfl rfl
theorem ww_X12_pairs : WW mi_X12_pairs 162 4 := ⟨v1572, v1569, v92, v1570, v1571, ⟨by decide, by decide, by decide +kernel⟩, by decide⟩
def TL_1316 : List (Nat × Instr × Nat) := [(1316, .aload_n 1, 1), (1317, .aload_n 0, 1), (1318, .iload_n 3, 1), (1319, .iconst 1, 1), (1320, .iadd, 1), (1321, .iaload, 1), (1322, .aload_n 0, 1), (1323, .iload_n 3, 1), (1324, .iconst 2, 1), (1325, .iadd, 1), (1326, .iaload, 1), (1327, .aload_n 0, 1), (1328, .iload_n 3, 1), (1329, .iconst 3, 1), (1330, .iadd, 1), (1331, .iaload, 1), (1332, .aload_n 0, 1), (1333, .iload_n 3, 1), (1334, .iconst 4, 1), (1335, .iadd, 1), (1336, .iaload, 1), (1337, .invokevirtual 159, 3), (1340, .aload_n 2, 1), (1341, .aload_n 0, 1), (1342, .iload_n 3, 1), (1343, .iconst 1, 1), (1344, .iadd, 1), (1345, .iaload, 1), (1346, .aload_n 0, 1), (1347, .iload_n 3, 1), (1348, .iconst 2, 1), (1349, .iadd, 1), (1350, .iaload, 1), (1351, .aload_n 0, 1), (1352, .iload_n 3, 1), (1353, .iconst 3, 1), (1354, .iadd, 1), (1355, .iaload, 1), (1356, .aload_n 0, 1), (1357, .iload_n 3, 1), (1358, .iconst 4, 1), (1359, .iadd, 1), (1360, .iaload, 1), (1361, .invokevirtual 162, 3), (1364, .if_icmp .eq 61, 3), (1367, .iconst 0, 1)]
set_option maxRecDepth 100000 in
theorem dtl_1316 : ∀ q ∈ TL_1316, decode code q.1 = .ok q.2 := by decide +kernel
set_option maxRecDepth 100000 in
theorem ad_1317 : argD 1317 4 := fun t ht => by
    have hh : t = 0 ∨ t = 1 ∨ t = 2 ∨ t = 3 := by omega
    rcases hh with rfl | rfl | rfl | rfl
    · exact ⟨dtk dtl_1316 1 (1317, .aload_n 0, 1) rfl, dtk dtl_1316 2 (1318, .iload_n 3, 1) rfl, dtk dtl_1316 3 (1319, .iconst 1, 1) rfl, dtk dtl_1316 4 (1320, .iadd, 1) rfl, dtk dtl_1316 5 (1321, .iaload, 1) rfl⟩
    · exact ⟨dtk dtl_1316 6 (1322, .aload_n 0, 1) rfl, dtk dtl_1316 7 (1323, .iload_n 3, 1) rfl, dtk dtl_1316 8 (1324, .iconst 2, 1) rfl, dtk dtl_1316 9 (1325, .iadd, 1) rfl, dtk dtl_1316 10 (1326, .iaload, 1) rfl⟩
    · exact ⟨dtk dtl_1316 11 (1327, .aload_n 0, 1) rfl, dtk dtl_1316 12 (1328, .iload_n 3, 1) rfl, dtk dtl_1316 13 (1329, .iconst 3, 1) rfl, dtk dtl_1316 14 (1330, .iadd, 1) rfl, dtk dtl_1316 15 (1331, .iaload, 1) rfl⟩
    · exact ⟨dtk dtl_1316 16 (1332, .aload_n 0, 1) rfl, dtk dtl_1316 17 (1333, .iload_n 3, 1) rfl, dtk dtl_1316 18 (1334, .iconst 4, 1) rfl, dtk dtl_1316 19 (1335, .iadd, 1) rfl, dtk dtl_1316 20 (1336, .iaload, 1) rfl⟩
set_option maxRecDepth 100000 in
theorem ad_1341 : argD 1341 4 := fun t ht => by
    have hh : t = 0 ∨ t = 1 ∨ t = 2 ∨ t = 3 := by omega
    rcases hh with rfl | rfl | rfl | rfl
    · exact ⟨dtk dtl_1316 23 (1341, .aload_n 0, 1) rfl, dtk dtl_1316 24 (1342, .iload_n 3, 1) rfl, dtk dtl_1316 25 (1343, .iconst 1, 1) rfl, dtk dtl_1316 26 (1344, .iadd, 1) rfl, dtk dtl_1316 27 (1345, .iaload, 1) rfl⟩
    · exact ⟨dtk dtl_1316 28 (1346, .aload_n 0, 1) rfl, dtk dtl_1316 29 (1347, .iload_n 3, 1) rfl, dtk dtl_1316 30 (1348, .iconst 2, 1) rfl, dtk dtl_1316 31 (1349, .iadd, 1) rfl, dtk dtl_1316 32 (1350, .iaload, 1) rfl⟩
    · exact ⟨dtk dtl_1316 33 (1351, .aload_n 0, 1) rfl, dtk dtl_1316 34 (1352, .iload_n 3, 1) rfl, dtk dtl_1316 35 (1353, .iconst 3, 1) rfl, dtk dtl_1316 36 (1354, .iadd, 1) rfl, dtk dtl_1316 37 (1355, .iaload, 1) rfl⟩
    · exact ⟨dtk dtl_1316 38 (1356, .aload_n 0, 1) rfl, dtk dtl_1316 39 (1357, .iload_n 3, 1) rfl, dtk dtl_1316 40 (1358, .iconst 4, 1) rfl, dtk dtl_1316 41 (1359, .iadd, 1) rfl, dtk dtl_1316 42 (1360, .iaload, 1) rfl⟩
set_option maxRecDepth 100000 in
theorem dec_1316 : caseD 1316 4 159 162 61 := ⟨dtk dtl_1316 0 (1316, .aload_n 1, 1) rfl, ad_1317, dtk dtl_1316 21 (1337, .invokevirtual 159, 3) rfl, dtk dtl_1316 22 (1340, .aload_n 2, 1) rfl, ad_1341, dtk dtl_1316 43 (1361, .invokevirtual 162, 3) rfl, dtk dtl_1316 44 (1364, .if_icmp .eq 61, 3) rfl, by decide⟩
set_option maxRecDepth 100000 in
theorem v1087 : (Jvm.Cond.code ({ cls := "HalfOrders", name := "forge", desc := "(III)I" } : Jvm.MethodName) prog_1_method_38_code (4 : Nat) (Option.some Jvm.ClassFile.FieldType.int)) ∈ mw_tbl := mwt_5 43 rfl rfl
set_option maxRecDepth 100000 in
theorem v1084 : (Jvm.Cond.methodLink "HalfOrdersLaw" (163 : Nat) ({ cls := "HalfOrders", name := "forge", desc := "(III)I" } : Jvm.MethodName)) ∈ mw_tbl := mwt_5 40 rfl rfl
set_option maxRecDepth 100000 in
theorem v1085 : (Jvm.Cond.instanceMethod ({ cls := "HalfOrders", name := "forge", desc := "(III)I" } : Jvm.MethodName)) ∈ mw_tbl := mwt_5 41 rfl rfl
set_option maxRecDepth 100000 in
theorem v1086 : (Jvm.Cond.selects "HalfOrders" ({ cls := "HalfOrders", name := "forge", desc := "(III)I" } : Jvm.MethodName) ({ cls := "HalfOrders", name := "forge", desc := "(III)I" } : Jvm.MethodName)) ∈ mw_tbl := mwt_5 42 rfl rfl
theorem ww_X11_forge : WW mi_X11_forge 163 3 := ⟨v1087, v1084, v85, v1085, v1086, ⟨by decide, by decide, by decide +kernel⟩, by decide⟩
set_option maxRecDepth 100000 in
theorem v1580 : (Jvm.Cond.code ({ cls := "HalfOrdersModel", name := "forge", desc := "(III)I" } : Jvm.MethodName) prog_14_method_97_code (6 : Nat) (Option.some Jvm.ClassFile.FieldType.int)) ∈ mw_tbl := mwt_7 56 rfl rfl
set_option maxRecDepth 100000 in
theorem v1577 : (Jvm.Cond.methodLink "HalfOrdersLaw" (166 : Nat) ({ cls := "HalfOrdersModel", name := "forge", desc := "(III)I" } : Jvm.MethodName)) ∈ mw_tbl := mwt_7 53 rfl rfl
set_option maxRecDepth 100000 in
theorem v1578 : (Jvm.Cond.instanceMethod ({ cls := "HalfOrdersModel", name := "forge", desc := "(III)I" } : Jvm.MethodName)) ∈ mw_tbl := mwt_7 54 rfl rfl
set_option maxRecDepth 100000 in
theorem v1579 : (Jvm.Cond.selects "HalfOrdersModel" ({ cls := "HalfOrdersModel", name := "forge", desc := "(III)I" } : Jvm.MethodName) ({ cls := "HalfOrdersModel", name := "forge", desc := "(III)I" } : Jvm.MethodName)) ∈ mw_tbl := mwt_7 55 rfl rfl
theorem ww_X12_forge : WW mi_X12_forge 166 3 := ⟨v1580, v1577, v92, v1578, v1579, ⟨by decide, by decide, by decide +kernel⟩, by decide⟩
def TL_1369 : List (Nat × Instr × Nat) := [(1369, .aload_n 1, 1), (1370, .aload_n 0, 1), (1371, .iload_n 3, 1), (1372, .iconst 1, 1), (1373, .iadd, 1), (1374, .iaload, 1), (1375, .aload_n 0, 1), (1376, .iload_n 3, 1), (1377, .iconst 2, 1), (1378, .iadd, 1), (1379, .iaload, 1), (1380, .aload_n 0, 1), (1381, .iload_n 3, 1), (1382, .iconst 3, 1), (1383, .iadd, 1), (1384, .iaload, 1), (1385, .invokevirtual 163, 3), (1388, .aload_n 2, 1), (1389, .aload_n 0, 1), (1390, .iload_n 3, 1), (1391, .iconst 1, 1), (1392, .iadd, 1), (1393, .iaload, 1), (1394, .aload_n 0, 1), (1395, .iload_n 3, 1), (1396, .iconst 2, 1), (1397, .iadd, 1), (1398, .iaload, 1), (1399, .aload_n 0, 1), (1400, .iload_n 3, 1), (1401, .iconst 3, 1), (1402, .iadd, 1), (1403, .iaload, 1), (1404, .invokevirtual 166, 3), (1407, .if_icmp .eq 18, 3), (1410, .iconst 0, 1)]
set_option maxRecDepth 100000 in
theorem dtl_1369 : ∀ q ∈ TL_1369, decode code q.1 = .ok q.2 := by decide +kernel
set_option maxRecDepth 100000 in
theorem ad_1370 : argD 1370 3 := fun t ht => by
    have hh : t = 0 ∨ t = 1 ∨ t = 2 := by omega
    rcases hh with rfl | rfl | rfl
    · exact ⟨dtk dtl_1369 1 (1370, .aload_n 0, 1) rfl, dtk dtl_1369 2 (1371, .iload_n 3, 1) rfl, dtk dtl_1369 3 (1372, .iconst 1, 1) rfl, dtk dtl_1369 4 (1373, .iadd, 1) rfl, dtk dtl_1369 5 (1374, .iaload, 1) rfl⟩
    · exact ⟨dtk dtl_1369 6 (1375, .aload_n 0, 1) rfl, dtk dtl_1369 7 (1376, .iload_n 3, 1) rfl, dtk dtl_1369 8 (1377, .iconst 2, 1) rfl, dtk dtl_1369 9 (1378, .iadd, 1) rfl, dtk dtl_1369 10 (1379, .iaload, 1) rfl⟩
    · exact ⟨dtk dtl_1369 11 (1380, .aload_n 0, 1) rfl, dtk dtl_1369 12 (1381, .iload_n 3, 1) rfl, dtk dtl_1369 13 (1382, .iconst 3, 1) rfl, dtk dtl_1369 14 (1383, .iadd, 1) rfl, dtk dtl_1369 15 (1384, .iaload, 1) rfl⟩
set_option maxRecDepth 100000 in
theorem ad_1389 : argD 1389 3 := fun t ht => by
    have hh : t = 0 ∨ t = 1 ∨ t = 2 := by omega
    rcases hh with rfl | rfl | rfl
    · exact ⟨dtk dtl_1369 18 (1389, .aload_n 0, 1) rfl, dtk dtl_1369 19 (1390, .iload_n 3, 1) rfl, dtk dtl_1369 20 (1391, .iconst 1, 1) rfl, dtk dtl_1369 21 (1392, .iadd, 1) rfl, dtk dtl_1369 22 (1393, .iaload, 1) rfl⟩
    · exact ⟨dtk dtl_1369 23 (1394, .aload_n 0, 1) rfl, dtk dtl_1369 24 (1395, .iload_n 3, 1) rfl, dtk dtl_1369 25 (1396, .iconst 2, 1) rfl, dtk dtl_1369 26 (1397, .iadd, 1) rfl, dtk dtl_1369 27 (1398, .iaload, 1) rfl⟩
    · exact ⟨dtk dtl_1369 28 (1399, .aload_n 0, 1) rfl, dtk dtl_1369 29 (1400, .iload_n 3, 1) rfl, dtk dtl_1369 30 (1401, .iconst 3, 1) rfl, dtk dtl_1369 31 (1402, .iadd, 1) rfl, dtk dtl_1369 32 (1403, .iaload, 1) rfl⟩
set_option maxRecDepth 100000 in
theorem dec_1369 : caseD 1369 3 163 166 18 := ⟨dtk dtl_1369 0 (1369, .aload_n 1, 1) rfl, ad_1370, dtk dtl_1369 16 (1385, .invokevirtual 163, 3) rfl, dtk dtl_1369 17 (1388, .aload_n 2, 1) rfl, ad_1389, dtk dtl_1369 33 (1404, .invokevirtual 166, 3) rfl, dtk dtl_1369 34 (1407, .if_icmp .eq 18, 3) rfl, by decide⟩
set_option maxRecDepth 100000 in
theorem v1118 : (Jvm.Cond.code ({ cls := "HalfOrders", name := "status", desc := "()I" } : Jvm.MethodName) prog_1_method_39_code (1 : Nat) (Option.some Jvm.ClassFile.FieldType.int)) ∈ mw_tbl := mwt_5 74 rfl rfl
set_option maxRecDepth 100000 in
theorem v1115 : (Jvm.Cond.methodLink "HalfOrdersLaw" (167 : Nat) ({ cls := "HalfOrders", name := "status", desc := "()I" } : Jvm.MethodName)) ∈ mw_tbl := mwt_5 71 rfl rfl
set_option maxRecDepth 100000 in
theorem v1116 : (Jvm.Cond.instanceMethod ({ cls := "HalfOrders", name := "status", desc := "()I" } : Jvm.MethodName)) ∈ mw_tbl := mwt_5 72 rfl rfl
set_option maxRecDepth 100000 in
theorem v1117 : (Jvm.Cond.selects "HalfOrders" ({ cls := "HalfOrders", name := "status", desc := "()I" } : Jvm.MethodName) ({ cls := "HalfOrders", name := "status", desc := "()I" } : Jvm.MethodName)) ∈ mw_tbl := mwt_5 73 rfl rfl
theorem ww_X11_status : WW mi_X11_status 167 0 := ⟨v1118, v1115, v85, v1116, v1117, ⟨by decide, by decide, by decide +kernel⟩, by decide⟩
set_option maxRecDepth 100000 in
theorem v1595 : (Jvm.Cond.code ({ cls := "HalfOrdersModel", name := "status", desc := "()I" } : Jvm.MethodName) prog_14_method_98_code (1 : Nat) (Option.some Jvm.ClassFile.FieldType.int)) ∈ mw_tbl := mwt_7 71 rfl rfl
set_option maxRecDepth 100000 in
theorem v1592 : (Jvm.Cond.methodLink "HalfOrdersLaw" (170 : Nat) ({ cls := "HalfOrdersModel", name := "status", desc := "()I" } : Jvm.MethodName)) ∈ mw_tbl := mwt_7 68 rfl rfl
set_option maxRecDepth 100000 in
theorem v1593 : (Jvm.Cond.instanceMethod ({ cls := "HalfOrdersModel", name := "status", desc := "()I" } : Jvm.MethodName)) ∈ mw_tbl := mwt_7 69 rfl rfl
set_option maxRecDepth 100000 in
theorem v1594 : (Jvm.Cond.selects "HalfOrdersModel" ({ cls := "HalfOrdersModel", name := "status", desc := "()I" } : Jvm.MethodName) ({ cls := "HalfOrdersModel", name := "status", desc := "()I" } : Jvm.MethodName)) ∈ mw_tbl := mwt_7 70 rfl rfl
theorem ww_X12_status : WW mi_X12_status 170 0 := ⟨v1595, v1592, v92, v1593, v1594, ⟨by decide, by decide, by decide +kernel⟩, by decide⟩
def TL_1412 : List (Nat × Instr × Nat) := [(1412, .aload_n 1, 1), (1413, .invokevirtual 167, 3), (1416, .aload_n 2, 1), (1417, .invokevirtual 170, 3), (1420, .if_icmp .eq 5, 3), (1423, .iconst 0, 1)]
set_option maxRecDepth 100000 in
theorem dtl_1412 : ∀ q ∈ TL_1412, decode code q.1 = .ok q.2 := by decide +kernel
set_option maxRecDepth 100000 in
theorem ad_1413 : argD 1413 0 := fun t ht => absurd ht (Nat.not_lt_zero t)
set_option maxRecDepth 100000 in
theorem ad_1417 : argD 1417 0 := fun t ht => absurd ht (Nat.not_lt_zero t)
set_option maxRecDepth 100000 in
theorem dec_1412 : caseD 1412 0 167 170 5 := ⟨dtk dtl_1412 0 (1412, .aload_n 1, 1) rfl, ad_1413, dtk dtl_1412 1 (1413, .invokevirtual 167, 3) rfl, dtk dtl_1412 2 (1416, .aload_n 2, 1) rfl, ad_1417, dtk dtl_1412 3 (1417, .invokevirtual 170, 3) rfl, dtk dtl_1412 4 (1420, .if_icmp .eq 5, 3) rfl, by decide⟩
section CASES
variable {G : GG} {p : Program} {e : Env} {s : State} {m : MethodId} {below : List Frame} {meth : Method} {c : Code} {b L : Nat} {xs : Nat → Int32} {H : Heap} {locs : List Loc} {cells slots : Nat} {Zw : State → Prop} {ls : Array Slot} {n : Nat} {K : KK} {M : MM}
theorem law_200 (cx : LX G p s m b L xs c) (hr : HR G n K M H) (hs : va_S (mw_own G) s.heap H locs) {i : Int} (hl : lv_has ls 4 (LLv b G.2.2.2 i)) (hi : 0 ≤ i ∧ i + 5 ≤ L) (hL : L ≤ 2560) (h : LK K M) (hn : 55 ≤ n ∧ n < 50000) (hcs : cells + 3 ≤ 600000 ∧ slots + 25 ≤ 7302250) (kk : ∀ (n' : Nat) (K' : KK) (M' : MM) (H1 : Heap) (locs1 : List Loc), LK K' M' → n' ≤ n + 3 → 55 ≤ n' → HR G n' K' M' H1 → va_S (mw_own G) s.heap H1 locs1 → W p G.1 e room_1 s m #[Value.ref b] below meth c H1 locs1 (cells + 3) (slots + 25) Zw (F0 m 1425 ls [])) : W p G.1 e room_1 s m #[Value.ref b] below meth c H locs cells slots Zw (F0 m 200 ls []) :=
  law_case (av := [(0, xv xs (i + 1))]) cx hr hs hl hi hL h.wf hcs rfl dec_200 (c_X11_order h hn) (fun n1 K1 M1 h1 => c_X12_order h1.1) (sem_c_order h hn.1 hr.2.2.1) (by decide) ww_X11_order ww_X12_order rfl rfl ⟨⟨by decide, by decide⟩, by decide, by decide⟩ kk
theorem law_223 (cx : LX G p s m b L xs c) (hr : HR G n K M H) (hs : va_S (mw_own G) s.heap H locs) {i : Int} (hl : lv_has ls 4 (LLv b G.2.2.2 i)) (hi : 0 ≤ i ∧ i + 5 ≤ L) (hL : L ≤ 2560) (h : LK K M) (hn : 55 ≤ n ∧ n < 50000) (hcs : cells + 3 ≤ 600000 ∧ slots + 25 ≤ 7302250) (kk : ∀ (n' : Nat) (K' : KK) (M' : MM) (H1 : Heap) (locs1 : List Loc), LK K' M' → n' ≤ n + 3 → 55 ≤ n' → HR G n' K' M' H1 → va_S (mw_own G) s.heap H1 locs1 → W p G.1 e room_1 s m #[Value.ref b] below meth c H1 locs1 (cells + 3) (slots + 25) Zw (F0 m 1425 ls [])) : W p G.1 e room_1 s m #[Value.ref b] below meth c H locs cells slots Zw (F0 m 223 ls []) :=
  law_case (av := [(0, xv xs (i + 1)), (0, xv xs (i + 2)), (0, xv xs (i + 3))]) cx hr hs hl hi hL h.wf hcs rfl dec_223 (c_X11_pair h) (fun n1 K1 M1 h1 => c_X12_pair h1.1 (h1.2.1 _)) (sem_c_pair h hn.1) (by decide) ww_X11_pair ww_X12_pair rfl rfl ⟨⟨by decide, by decide⟩, by decide, by decide⟩ kk
theorem law_266 (cx : LX G p s m b L xs c) (hr : HR G n K M H) (hs : va_S (mw_own G) s.heap H locs) {i : Int} (hl : lv_has ls 4 (LLv b G.2.2.2 i)) (hi : 0 ≤ i ∧ i + 5 ≤ L) (hL : L ≤ 2560) (h : LK K M) (hn : 55 ≤ n ∧ n < 50000) (hcs : cells + 3 ≤ 600000 ∧ slots + 25 ≤ 7302250) (kk : ∀ (n' : Nat) (K' : KK) (M' : MM) (H1 : Heap) (locs1 : List Loc), LK K' M' → n' ≤ n + 3 → 55 ≤ n' → HR G n' K' M' H1 → va_S (mw_own G) s.heap H1 locs1 → W p G.1 e room_1 s m #[Value.ref b] below meth c H1 locs1 (cells + 3) (slots + 25) Zw (F0 m 1425 ls [])) : W p G.1 e room_1 s m #[Value.ref b] below meth c H locs cells slots Zw (F0 m 266 ls []) :=
  law_case (av := [(0, xv xs (i + 1))]) cx hr hs hl hi hL h.wf hcs rfl dec_266 (c_X11_round h) (fun n1 K1 M1 h1 => c_X12_round h1.1.1 h1.2.2.2.2.2.2.1) (sem_c_round h hn.1) (by decide) ww_X11_round ww_X12_round rfl rfl ⟨⟨by decide, by decide⟩, by decide, by decide⟩ kk
theorem law_289 (cx : LX G p s m b L xs c) (hr : HR G n K M H) (hs : va_S (mw_own G) s.heap H locs) {i : Int} (hl : lv_has ls 4 (LLv b G.2.2.2 i)) (hi : 0 ≤ i ∧ i + 5 ≤ L) (hL : L ≤ 2560) (h : LK K M) (hn : 55 ≤ n ∧ n < 50000) (hcs : cells + 3 ≤ 600000 ∧ slots + 25 ≤ 7302250) (kk : ∀ (n' : Nat) (K' : KK) (M' : MM) (H1 : Heap) (locs1 : List Loc), LK K' M' → n' ≤ n + 3 → 55 ≤ n' → HR G n' K' M' H1 → va_S (mw_own G) s.heap H1 locs1 → W p G.1 e room_1 s m #[Value.ref b] below meth c H1 locs1 (cells + 3) (slots + 25) Zw (F0 m 1425 ls [])) : W p G.1 e room_1 s m #[Value.ref b] below meth c H locs cells slots Zw (F0 m 289 ls []) :=
  law_case (av := [(0, xv xs (i + 1)), (0, xv xs (i + 2))]) cx hr hs hl hi hL h.wf hcs rfl dec_289 (c_X11_stack h hn) (fun n1 K1 M1 h1 => c_X12_stack h1.1) (sem_c_stack h hn.1 hr.2.2.1) (by decide) ww_X11_stack ww_X12_stack rfl rfl ⟨⟨by decide, by decide⟩, by decide, by decide⟩ kk
theorem law_322 (cx : LX G p s m b L xs c) (hr : HR G n K M H) (hs : va_S (mw_own G) s.heap H locs) {i : Int} (hl : lv_has ls 4 (LLv b G.2.2.2 i)) (hi : 0 ≤ i ∧ i + 5 ≤ L) (hL : L ≤ 2560) (h : LK K M) (hn : 55 ≤ n ∧ n < 50000) (hcs : cells + 3 ≤ 600000 ∧ slots + 25 ≤ 7302250) (kk : ∀ (n' : Nat) (K' : KK) (M' : MM) (H1 : Heap) (locs1 : List Loc), LK K' M' → n' ≤ n + 3 → 55 ≤ n' → HR G n' K' M' H1 → va_S (mw_own G) s.heap H1 locs1 → W p G.1 e room_1 s m #[Value.ref b] below meth c H1 locs1 (cells + 3) (slots + 25) Zw (F0 m 1425 ls [])) : W p G.1 e room_1 s m #[Value.ref b] below meth c H locs cells slots Zw (F0 m 322 ls []) :=
  law_case (av := [(0, xv xs (i + 1)), (0, xv xs (i + 2))]) cx hr hs hl hi hL h.wf hcs rfl dec_322 (c_X11_beside h hn) (fun n1 K1 M1 h1 => c_X12_beside h1.1) (sem_c_beside h hn.1 hr.2.2.1) (by decide) ww_X11_beside ww_X12_beside rfl rfl ⟨⟨by decide, by decide⟩, by decide, by decide⟩ kk
theorem law_355 (cx : LX G p s m b L xs c) (hr : HR G n K M H) (hs : va_S (mw_own G) s.heap H locs) {i : Int} (hl : lv_has ls 4 (LLv b G.2.2.2 i)) (hi : 0 ≤ i ∧ i + 5 ≤ L) (hL : L ≤ 2560) (h : LK K M) (hn : 55 ≤ n ∧ n < 50000) (hcs : cells + 3 ≤ 600000 ∧ slots + 25 ≤ 7302250) (kk : ∀ (n' : Nat) (K' : KK) (M' : MM) (H1 : Heap) (locs1 : List Loc), LK K' M' → n' ≤ n + 3 → 55 ≤ n' → HR G n' K' M' H1 → va_S (mw_own G) s.heap H1 locs1 → W p G.1 e room_1 s m #[Value.ref b] below meth c H1 locs1 (cells + 3) (slots + 25) Zw (F0 m 1425 ls [])) : W p G.1 e room_1 s m #[Value.ref b] below meth c H locs cells slots Zw (F0 m 355 ls []) :=
  law_case (av := [(0, xv xs (i + 1)), (0, xv xs (i + 2))]) cx hr hs hl hi hL h.wf hcs rfl dec_355 (c_X11_times h hn) (fun n1 K1 M1 h1 => c_X12_times h1.1) (sem_c_times h hn.1 hr.2.2.1) (by decide) ww_X11_times ww_X12_times rfl rfl ⟨⟨by decide, by decide⟩, by decide, by decide⟩ kk
theorem law_388 (cx : LX G p s m b L xs c) (hr : HR G n K M H) (hs : va_S (mw_own G) s.heap H locs) {i : Int} (hl : lv_has ls 4 (LLv b G.2.2.2 i)) (hi : 0 ≤ i ∧ i + 5 ≤ L) (hL : L ≤ 2560) (h : LK K M) (hn : 55 ≤ n ∧ n < 50000) (hcs : cells + 3 ≤ 600000 ∧ slots + 25 ≤ 7302250) (kk : ∀ (n' : Nat) (K' : KK) (M' : MM) (H1 : Heap) (locs1 : List Loc), LK K' M' → n' ≤ n + 3 → 55 ≤ n' → HR G n' K' M' H1 → va_S (mw_own G) s.heap H1 locs1 → W p G.1 e room_1 s m #[Value.ref b] below meth c H1 locs1 (cells + 3) (slots + 25) Zw (F0 m 1425 ls [])) : W p G.1 e room_1 s m #[Value.ref b] below meth c H locs cells slots Zw (F0 m 388 ls []) :=
  law_case (av := [(0, xv xs (i + 1))]) cx hr hs hl hi hL h.wf hcs rfl dec_388 (c_X11_held h hn) (fun n1 K1 M1 h1 => c_X12_held h1.1) (sem_c_held h hn.1 hr.2.2.1) (by decide) ww_X11_held ww_X12_held rfl rfl ⟨⟨by decide, by decide⟩, by decide, by decide⟩ kk
theorem law_411 (cx : LX G p s m b L xs c) (hr : HR G n K M H) (hs : va_S (mw_own G) s.heap H locs) {i : Int} (hl : lv_has ls 4 (LLv b G.2.2.2 i)) (hi : 0 ≤ i ∧ i + 5 ≤ L) (hL : L ≤ 2560) (h : LK K M) (hn : 55 ≤ n ∧ n < 50000) (hcs : cells + 3 ≤ 600000 ∧ slots + 25 ≤ 7302250) (kk : ∀ (n' : Nat) (K' : KK) (M' : MM) (H1 : Heap) (locs1 : List Loc), LK K' M' → n' ≤ n + 3 → 55 ≤ n' → HR G n' K' M' H1 → va_S (mw_own G) s.heap H1 locs1 → W p G.1 e room_1 s m #[Value.ref b] below meth c H1 locs1 (cells + 3) (slots + 25) Zw (F0 m 1425 ls [])) : W p G.1 e room_1 s m #[Value.ref b] below meth c H locs cells slots Zw (F0 m 411 ls []) :=
  law_case (av := [(0, xv xs (i + 1))]) cx hr hs hl hi hL h.wf hcs rfl dec_411 (c_X11_row h hn) (fun n1 K1 M1 h1 => c_X12_row h1.1) (sem_c_row h hn.1 hr.2.2.1) (by decide) ww_X11_row ww_X12_row rfl rfl ⟨⟨by decide, by decide⟩, by decide, by decide⟩ kk
theorem law_434 (cx : LX G p s m b L xs c) (hr : HR G n K M H) (hs : va_S (mw_own G) s.heap H locs) {i : Int} (hl : lv_has ls 4 (LLv b G.2.2.2 i)) (hi : 0 ≤ i ∧ i + 5 ≤ L) (hL : L ≤ 2560) (h : LK K M) (hn : 55 ≤ n ∧ n < 50000) (hcs : cells + 3 ≤ 600000 ∧ slots + 25 ≤ 7302250) (kk : ∀ (n' : Nat) (K' : KK) (M' : MM) (H1 : Heap) (locs1 : List Loc), LK K' M' → n' ≤ n + 3 → 55 ≤ n' → HR G n' K' M' H1 → va_S (mw_own G) s.heap H1 locs1 → W p G.1 e room_1 s m #[Value.ref b] below meth c H1 locs1 (cells + 3) (slots + 25) Zw (F0 m 1425 ls [])) : W p G.1 e room_1 s m #[Value.ref b] below meth c H locs cells slots Zw (F0 m 434 ls []) :=
  law_case (av := [(0, xv xs (i + 1))]) cx hr hs hl hi hL h.wf hcs rfl dec_434 (c_X11_dual h hn) (fun n1 K1 M1 h1 => c_X12_dual h1.1) (sem_c_dual h hn.1 hr.2.2.1) (by decide) ww_X11_dual ww_X12_dual rfl rfl ⟨⟨by decide, by decide⟩, by decide, by decide⟩ kk
theorem law_457 (cx : LX G p s m b L xs c) (hr : HR G n K M H) (hs : va_S (mw_own G) s.heap H locs) {i : Int} (hl : lv_has ls 4 (LLv b G.2.2.2 i)) (hi : 0 ≤ i ∧ i + 5 ≤ L) (hL : L ≤ 2560) (h : LK K M) (hn : 55 ≤ n ∧ n < 50000) (hcs : cells + 3 ≤ 600000 ∧ slots + 25 ≤ 7302250) (kk : ∀ (n' : Nat) (K' : KK) (M' : MM) (H1 : Heap) (locs1 : List Loc), LK K' M' → n' ≤ n + 3 → 55 ≤ n' → HR G n' K' M' H1 → va_S (mw_own G) s.heap H1 locs1 → W p G.1 e room_1 s m #[Value.ref b] below meth c H1 locs1 (cells + 3) (slots + 25) Zw (F0 m 1425 ls [])) : W p G.1 e room_1 s m #[Value.ref b] below meth c H locs cells slots Zw (F0 m 457 ls []) :=
  law_case (av := [(0, xv xs (i + 1)), (0, xv xs (i + 2))]) cx hr hs hl hi hL h.wf hcs rfl dec_457 (c_X11_part h hn) (fun n1 K1 M1 h1 => c_X12_part h1.1) (sem_c_part h hn.1 hr.2.2.1 (inR_to _)) (by decide) ww_X11_part ww_X12_part rfl rfl ⟨⟨by decide, by decide⟩, by decide, by decide⟩ kk
theorem law_490 (cx : LX G p s m b L xs c) (hr : HR G n K M H) (hs : va_S (mw_own G) s.heap H locs) {i : Int} (hl : lv_has ls 4 (LLv b G.2.2.2 i)) (hi : 0 ≤ i ∧ i + 5 ≤ L) (hL : L ≤ 2560) (h : LK K M) (hn : 55 ≤ n ∧ n < 50000) (hcs : cells + 3 ≤ 600000 ∧ slots + 25 ≤ 7302250) (kk : ∀ (n' : Nat) (K' : KK) (M' : MM) (H1 : Heap) (locs1 : List Loc), LK K' M' → n' ≤ n + 3 → 55 ≤ n' → HR G n' K' M' H1 → va_S (mw_own G) s.heap H1 locs1 → W p G.1 e room_1 s m #[Value.ref b] below meth c H1 locs1 (cells + 3) (slots + 25) Zw (F0 m 1425 ls [])) : W p G.1 e room_1 s m #[Value.ref b] below meth c H locs cells slots Zw (F0 m 490 ls []) :=
  law_case (av := []) cx hr hs hl hi hL h.wf hcs rfl dec_490 (c_X11_drop h) (fun n1 K1 M1 h1 => c_X12_drop h1.1) (sem_c_drop h hn.1) (by decide) ww_X11_drop ww_X12_drop rfl rfl ⟨⟨by decide, by decide⟩, by decide, by decide⟩ kk
theorem law_503 (cx : LX G p s m b L xs c) (hr : HR G n K M H) (hs : va_S (mw_own G) s.heap H locs) {i : Int} (hl : lv_has ls 4 (LLv b G.2.2.2 i)) (hi : 0 ≤ i ∧ i + 5 ≤ L) (hL : L ≤ 2560) (h : LK K M) (hn : 55 ≤ n ∧ n < 50000) (hcs : cells + 3 ≤ 600000 ∧ slots + 25 ≤ 7302250) (kk : ∀ (n' : Nat) (K' : KK) (M' : MM) (H1 : Heap) (locs1 : List Loc), LK K' M' → n' ≤ n + 3 → 55 ≤ n' → HR G n' K' M' H1 → va_S (mw_own G) s.heap H1 locs1 → W p G.1 e room_1 s m #[Value.ref b] below meth c H1 locs1 (cells + 3) (slots + 25) Zw (F0 m 1425 ls [])) : W p G.1 e room_1 s m #[Value.ref b] below meth c H locs cells slots Zw (F0 m 503 ls []) :=
  law_case (av := [(0, xv xs (i + 1)), (0, xv xs (i + 2))]) cx hr hs hl hi hL h.wf hcs rfl dec_503 (c_X11_told h) (fun n1 K1 M1 h1 => c_X12_told h1.1 (h1.2.1 _) h1.2.2.2.2.2.1) (sem_c_told h hn.1) (by decide) ww_X11_told ww_X12_told rfl rfl ⟨⟨by decide, by decide⟩, by decide, by decide⟩ kk
theorem law_536 (cx : LX G p s m b L xs c) (hr : HR G n K M H) (hs : va_S (mw_own G) s.heap H locs) {i : Int} (hl : lv_has ls 4 (LLv b G.2.2.2 i)) (hi : 0 ≤ i ∧ i + 5 ≤ L) (hL : L ≤ 2560) (h : LK K M) (hn : 55 ≤ n ∧ n < 50000) (hcs : cells + 3 ≤ 600000 ∧ slots + 25 ≤ 7302250) (kk : ∀ (n' : Nat) (K' : KK) (M' : MM) (H1 : Heap) (locs1 : List Loc), LK K' M' → n' ≤ n + 3 → 55 ≤ n' → HR G n' K' M' H1 → va_S (mw_own G) s.heap H1 locs1 → W p G.1 e room_1 s m #[Value.ref b] below meth c H1 locs1 (cells + 3) (slots + 25) Zw (F0 m 1425 ls [])) : W p G.1 e room_1 s m #[Value.ref b] below meth c H locs cells slots Zw (F0 m 536 ls []) :=
  law_case (av := [(0, xv xs (i + 1))]) cx hr hs hl hi hL h.wf hcs rfl dec_536 (c_X11_count h) (fun n1 K1 M1 h1 => c_X12_count h1.1.1) (sem_c_count h hn.1) (by decide) ww_X11_count ww_X12_count rfl rfl ⟨⟨by decide, by decide⟩, by decide, by decide⟩ kk
theorem law_559 (cx : LX G p s m b L xs c) (hr : HR G n K M H) (hs : va_S (mw_own G) s.heap H locs) {i : Int} (hl : lv_has ls 4 (LLv b G.2.2.2 i)) (hi : 0 ≤ i ∧ i + 5 ≤ L) (hL : L ≤ 2560) (h : LK K M) (hn : 55 ≤ n ∧ n < 50000) (hcs : cells + 3 ≤ 600000 ∧ slots + 25 ≤ 7302250) (kk : ∀ (n' : Nat) (K' : KK) (M' : MM) (H1 : Heap) (locs1 : List Loc), LK K' M' → n' ≤ n + 3 → 55 ≤ n' → HR G n' K' M' H1 → va_S (mw_own G) s.heap H1 locs1 → W p G.1 e room_1 s m #[Value.ref b] below meth c H1 locs1 (cells + 3) (slots + 25) Zw (F0 m 1425 ls [])) : W p G.1 e room_1 s m #[Value.ref b] below meth c H locs cells slots Zw (F0 m 559 ls []) :=
  law_case (av := [(0, xv xs (i + 1)), (0, xv xs (i + 2)), (0, xv xs (i + 3))]) cx hr hs hl hi hL h.wf hcs rfl dec_559 (c_X11_below h) (fun n1 K1 M1 h1 => c_X12_below h1.1) (sem_c_below h hn.1) (by decide) ww_X11_below ww_X12_below rfl rfl ⟨⟨by decide, by decide⟩, by decide, by decide⟩ kk
theorem law_602 (cx : LX G p s m b L xs c) (hr : HR G n K M H) (hs : va_S (mw_own G) s.heap H locs) {i : Int} (hl : lv_has ls 4 (LLv b G.2.2.2 i)) (hi : 0 ≤ i ∧ i + 5 ≤ L) (hL : L ≤ 2560) (h : LK K M) (hn : 55 ≤ n ∧ n < 50000) (hcs : cells + 3 ≤ 600000 ∧ slots + 25 ≤ 7302250) (kk : ∀ (n' : Nat) (K' : KK) (M' : MM) (H1 : Heap) (locs1 : List Loc), LK K' M' → n' ≤ n + 3 → 55 ≤ n' → HR G n' K' M' H1 → va_S (mw_own G) s.heap H1 locs1 → W p G.1 e room_1 s m #[Value.ref b] below meth c H1 locs1 (cells + 3) (slots + 25) Zw (F0 m 1425 ls [])) : W p G.1 e room_1 s m #[Value.ref b] below meth c H locs cells slots Zw (F0 m 602 ls []) :=
  law_case (av := [(0, xv xs (i + 1))]) cx hr hs hl hi hL h.wf hcs rfl dec_602 (c_X11_widest h) (fun n1 K1 M1 h1 => c_X12_widest h1.1) (sem_c_widest h hn.1) (by decide) ww_X11_widest ww_X12_widest rfl rfl ⟨⟨by decide, by decide⟩, by decide, by decide⟩ kk
theorem law_625 (cx : LX G p s m b L xs c) (hr : HR G n K M H) (hs : va_S (mw_own G) s.heap H locs) {i : Int} (hl : lv_has ls 4 (LLv b G.2.2.2 i)) (hi : 0 ≤ i ∧ i + 5 ≤ L) (hL : L ≤ 2560) (h : LK K M) (hn : 55 ≤ n ∧ n < 50000) (hcs : cells + 3 ≤ 600000 ∧ slots + 25 ≤ 7302250) (kk : ∀ (n' : Nat) (K' : KK) (M' : MM) (H1 : Heap) (locs1 : List Loc), LK K' M' → n' ≤ n + 3 → 55 ≤ n' → HR G n' K' M' H1 → va_S (mw_own G) s.heap H1 locs1 → W p G.1 e room_1 s m #[Value.ref b] below meth c H1 locs1 (cells + 3) (slots + 25) Zw (F0 m 1425 ls [])) : W p G.1 e room_1 s m #[Value.ref b] below meth c H locs cells slots Zw (F0 m 625 ls []) :=
  law_case (av := [(0, xv xs (i + 1)), (0, xv xs (i + 2)), (0, xv xs (i + 3))]) cx hr hs hl hi hL h.wf hcs rfl dec_625 (c_X11_of h) (fun n1 K1 M1 h1 => c_X12_of h1.1 (fun ht => h1.ch ht)) (sem_c_of h hn.1) (by decide) ww_X11_of ww_X12_of rfl rfl ⟨⟨by decide, by decide⟩, by decide, by decide⟩ kk
theorem law_668 (cx : LX G p s m b L xs c) (hr : HR G n K M H) (hs : va_S (mw_own G) s.heap H locs) {i : Int} (hl : lv_has ls 4 (LLv b G.2.2.2 i)) (hi : 0 ≤ i ∧ i + 5 ≤ L) (hL : L ≤ 2560) (h : LK K M) (hn : 55 ≤ n ∧ n < 50000) (hcs : cells + 3 ≤ 600000 ∧ slots + 25 ≤ 7302250) (kk : ∀ (n' : Nat) (K' : KK) (M' : MM) (H1 : Heap) (locs1 : List Loc), LK K' M' → n' ≤ n + 3 → 55 ≤ n' → HR G n' K' M' H1 → va_S (mw_own G) s.heap H1 locs1 → W p G.1 e room_1 s m #[Value.ref b] below meth c H1 locs1 (cells + 3) (slots + 25) Zw (F0 m 1425 ls [])) : W p G.1 e room_1 s m #[Value.ref b] below meth c H locs cells slots Zw (F0 m 668 ls []) :=
  law_case (av := [(0, xv xs (i + 1)), (0, xv xs (i + 2))]) cx hr hs hl hi hL h.wf hcs rfl dec_668 (c_X11_low h) (fun n1 K1 M1 h1 => c_X12_low h1.1) (sem_c_low h hn.1) (by decide) ww_X11_low ww_X12_low rfl rfl ⟨⟨by decide, by decide⟩, by decide, by decide⟩ kk
theorem law_701 (cx : LX G p s m b L xs c) (hr : HR G n K M H) (hs : va_S (mw_own G) s.heap H locs) {i : Int} (hl : lv_has ls 4 (LLv b G.2.2.2 i)) (hi : 0 ≤ i ∧ i + 5 ≤ L) (hL : L ≤ 2560) (h : LK K M) (hn : 55 ≤ n ∧ n < 50000) (hcs : cells + 3 ≤ 600000 ∧ slots + 25 ≤ 7302250) (kk : ∀ (n' : Nat) (K' : KK) (M' : MM) (H1 : Heap) (locs1 : List Loc), LK K' M' → n' ≤ n + 3 → 55 ≤ n' → HR G n' K' M' H1 → va_S (mw_own G) s.heap H1 locs1 → W p G.1 e room_1 s m #[Value.ref b] below meth c H1 locs1 (cells + 3) (slots + 25) Zw (F0 m 1425 ls [])) : W p G.1 e room_1 s m #[Value.ref b] below meth c H locs cells slots Zw (F0 m 701 ls []) :=
  law_case (av := [(0, xv xs (i + 1)), (0, xv xs (i + 2)), (0, xv xs (i + 3))]) cx hr hs hl hi hL h.wf hcs rfl dec_701 (c_X11_rowOut h) (fun n1 K1 M1 h1 => c_X12_rowOut h1.1) (sem_c_rowOut h hn.1) (by decide) ww_X11_rowOut ww_X12_rowOut rfl rfl ⟨⟨by decide, by decide⟩, by decide, by decide⟩ kk
theorem law_744 (cx : LX G p s m b L xs c) (hr : HR G n K M H) (hs : va_S (mw_own G) s.heap H locs) {i : Int} (hl : lv_has ls 4 (LLv b G.2.2.2 i)) (hi : 0 ≤ i ∧ i + 5 ≤ L) (hL : L ≤ 2560) (h : LK K M) (hn : 55 ≤ n ∧ n < 50000) (hcs : cells + 3 ≤ 600000 ∧ slots + 25 ≤ 7302250) (kk : ∀ (n' : Nat) (K' : KK) (M' : MM) (H1 : Heap) (locs1 : List Loc), LK K' M' → n' ≤ n + 3 → 55 ≤ n' → HR G n' K' M' H1 → va_S (mw_own G) s.heap H1 locs1 → W p G.1 e room_1 s m #[Value.ref b] below meth c H1 locs1 (cells + 3) (slots + 25) Zw (F0 m 1425 ls [])) : W p G.1 e room_1 s m #[Value.ref b] below meth c H locs cells slots Zw (F0 m 744 ls []) :=
  law_case (av := [(0, xv xs (i + 1)), (0, xv xs (i + 2)), (0, xv xs (i + 3))]) cx hr hs hl hi hL h.wf hcs rfl dec_744 (c_X11_before h) (fun n1 K1 M1 h1 => c_X12_before h1.1) (sem_c_before h hn.1) (by decide) ww_X11_before ww_X12_before rfl rfl ⟨⟨by decide, by decide⟩, by decide, by decide⟩ kk
theorem law_787 (cx : LX G p s m b L xs c) (hr : HR G n K M H) (hs : va_S (mw_own G) s.heap H locs) {i : Int} (hl : lv_has ls 4 (LLv b G.2.2.2 i)) (hi : 0 ≤ i ∧ i + 5 ≤ L) (hL : L ≤ 2560) (h : LK K M) (hn : 55 ≤ n ∧ n < 50000) (hcs : cells + 3 ≤ 600000 ∧ slots + 25 ≤ 7302250) (kk : ∀ (n' : Nat) (K' : KK) (M' : MM) (H1 : Heap) (locs1 : List Loc), LK K' M' → n' ≤ n + 3 → 55 ≤ n' → HR G n' K' M' H1 → va_S (mw_own G) s.heap H1 locs1 → W p G.1 e room_1 s m #[Value.ref b] below meth c H1 locs1 (cells + 3) (slots + 25) Zw (F0 m 1425 ls [])) : W p G.1 e room_1 s m #[Value.ref b] below meth c H locs cells slots Zw (F0 m 787 ls []) :=
  law_caseL (av := [(0, xv xs (i + 1)), (0, xv xs (i + 2))]) cx hr hs hl hi hL h.wf hcs rfl dec_787 (c_X11_places h) (fun n1 K1 M1 h1 => c_X12_places h1.1) (sem_c_places h hn.1) (by decide) ww_X11_places ww_X12_places rfl rfl ⟨⟨by decide, by decide⟩, by decide, by decide⟩ kk
theorem law_821 (cx : LX G p s m b L xs c) (hr : HR G n K M H) (hs : va_S (mw_own G) s.heap H locs) {i : Int} (hl : lv_has ls 4 (LLv b G.2.2.2 i)) (hi : 0 ≤ i ∧ i + 5 ≤ L) (hL : L ≤ 2560) (h : LK K M) (hn : 55 ≤ n ∧ n < 50000) (hcs : cells + 3 ≤ 600000 ∧ slots + 25 ≤ 7302250) (kk : ∀ (n' : Nat) (K' : KK) (M' : MM) (H1 : Heap) (locs1 : List Loc), LK K' M' → n' ≤ n + 3 → 55 ≤ n' → HR G n' K' M' H1 → va_S (mw_own G) s.heap H1 locs1 → W p G.1 e room_1 s m #[Value.ref b] below meth c H1 locs1 (cells + 3) (slots + 25) Zw (F0 m 1425 ls [])) : W p G.1 e room_1 s m #[Value.ref b] below meth c H locs cells slots Zw (F0 m 821 ls []) :=
  law_case (av := [(0, xv xs (i + 1))]) cx hr hs hl hi hL h.wf hcs rfl dec_821 (c_X11_fair h) (fun n1 K1 M1 h1 => c_X12_fair h1.1) (sem_c_fair h hn.1) (by decide) ww_X11_fair ww_X12_fair rfl rfl ⟨⟨by decide, by decide⟩, by decide, by decide⟩ kk
theorem law_844 (cx : LX G p s m b L xs c) (hr : HR G n K M H) (hs : va_S (mw_own G) s.heap H locs) {i : Int} (hl : lv_has ls 4 (LLv b G.2.2.2 i)) (hi : 0 ≤ i ∧ i + 5 ≤ L) (hL : L ≤ 2560) (h : LK K M) (hn : 55 ≤ n ∧ n < 50000) (hcs : cells + 3 ≤ 600000 ∧ slots + 25 ≤ 7302250) (kk : ∀ (n' : Nat) (K' : KK) (M' : MM) (H1 : Heap) (locs1 : List Loc), LK K' M' → n' ≤ n + 3 → 55 ≤ n' → HR G n' K' M' H1 → va_S (mw_own G) s.heap H1 locs1 → W p G.1 e room_1 s m #[Value.ref b] below meth c H1 locs1 (cells + 3) (slots + 25) Zw (F0 m 1425 ls [])) : W p G.1 e room_1 s m #[Value.ref b] below meth c H locs cells slots Zw (F0 m 844 ls []) :=
  law_case (av := [(0, xv xs (i + 1)), (0, xv xs (i + 2)), (0, xv xs (i + 3))]) cx hr hs hl hi hL h.wf hcs rfl dec_844 (c_X11_two h) (fun n1 K1 M1 h1 => c_X12_two h1.1 (h1.2.1 _) h1.2.2.2.2.2.1) (sem_c_two h hn.1) (by decide) ww_X11_two ww_X12_two rfl rfl ⟨⟨by decide, by decide⟩, by decide, by decide⟩ kk
theorem law_887 (cx : LX G p s m b L xs c) (hr : HR G n K M H) (hs : va_S (mw_own G) s.heap H locs) {i : Int} (hl : lv_has ls 4 (LLv b G.2.2.2 i)) (hi : 0 ≤ i ∧ i + 5 ≤ L) (hL : L ≤ 2560) (h : LK K M) (hn : 55 ≤ n ∧ n < 50000) (hcs : cells + 3 ≤ 600000 ∧ slots + 25 ≤ 7302250) (kk : ∀ (n' : Nat) (K' : KK) (M' : MM) (H1 : Heap) (locs1 : List Loc), LK K' M' → n' ≤ n + 3 → 55 ≤ n' → HR G n' K' M' H1 → va_S (mw_own G) s.heap H1 locs1 → W p G.1 e room_1 s m #[Value.ref b] below meth c H1 locs1 (cells + 3) (slots + 25) Zw (F0 m 1425 ls [])) : W p G.1 e room_1 s m #[Value.ref b] below meth c H locs cells slots Zw (F0 m 887 ls []) :=
  law_case (av := [(0, xv xs (i + 1)), (0, xv xs (i + 2)), (0, xv xs (i + 3))]) cx hr hs hl hi hL h.wf hcs rfl dec_887 (c_X11_invert h) (fun n1 K1 M1 h1 => c_X12_invert h1.1) (sem_c_invert h hn.1) (by decide) ww_X11_invert ww_X12_invert rfl rfl ⟨⟨by decide, by decide⟩, by decide, by decide⟩ kk
theorem law_930 (cx : LX G p s m b L xs c) (hr : HR G n K M H) (hs : va_S (mw_own G) s.heap H locs) {i : Int} (hl : lv_has ls 4 (LLv b G.2.2.2 i)) (hi : 0 ≤ i ∧ i + 5 ≤ L) (hL : L ≤ 2560) (h : LK K M) (hn : 55 ≤ n ∧ n < 50000) (hcs : cells + 3 ≤ 600000 ∧ slots + 25 ≤ 7302250) (kk : ∀ (n' : Nat) (K' : KK) (M' : MM) (H1 : Heap) (locs1 : List Loc), LK K' M' → n' ≤ n + 3 → 55 ≤ n' → HR G n' K' M' H1 → va_S (mw_own G) s.heap H1 locs1 → W p G.1 e room_1 s m #[Value.ref b] below meth c H1 locs1 (cells + 3) (slots + 25) Zw (F0 m 1425 ls [])) : W p G.1 e room_1 s m #[Value.ref b] below meth c H locs cells slots Zw (F0 m 930 ls []) :=
  law_case (av := [(0, xv xs (i + 1)), (0, xv xs (i + 2)), (0, xv xs (i + 3)), (0, xv xs (i + 4))]) cx hr hs hl hi hL h.wf hcs rfl dec_930 (c_X11_bound h) (fun n1 K1 M1 h1 => c_X12_bound h1.1) (sem_c_bound h hn.1) (by decide) ww_X11_bound ww_X12_bound rfl rfl ⟨⟨by decide, by decide⟩, by decide, by decide⟩ kk
theorem law_983 (cx : LX G p s m b L xs c) (hr : HR G n K M H) (hs : va_S (mw_own G) s.heap H locs) {i : Int} (hl : lv_has ls 4 (LLv b G.2.2.2 i)) (hi : 0 ≤ i ∧ i + 5 ≤ L) (hL : L ≤ 2560) (h : LK K M) (hn : 55 ≤ n ∧ n < 50000) (hcs : cells + 3 ≤ 600000 ∧ slots + 25 ≤ 7302250) (kk : ∀ (n' : Nat) (K' : KK) (M' : MM) (H1 : Heap) (locs1 : List Loc), LK K' M' → n' ≤ n + 3 → 55 ≤ n' → HR G n' K' M' H1 → va_S (mw_own G) s.heap H1 locs1 → W p G.1 e room_1 s m #[Value.ref b] below meth c H1 locs1 (cells + 3) (slots + 25) Zw (F0 m 1425 ls [])) : W p G.1 e room_1 s m #[Value.ref b] below meth c H locs cells slots Zw (F0 m 983 ls []) :=
  law_case (av := [(0, xv xs (i + 1))]) cx hr hs hl hi hL h.wf hcs rfl dec_983 (c_X11_uneven h) (fun n1 K1 M1 h1 => c_X12_uneven h1.1) (sem_c_uneven h hn.1) (by decide) ww_X11_uneven ww_X12_uneven rfl rfl ⟨⟨by decide, by decide⟩, by decide, by decide⟩ kk
theorem law_1006 (cx : LX G p s m b L xs c) (hr : HR G n K M H) (hs : va_S (mw_own G) s.heap H locs) {i : Int} (hl : lv_has ls 4 (LLv b G.2.2.2 i)) (hi : 0 ≤ i ∧ i + 5 ≤ L) (hL : L ≤ 2560) (h : LK K M) (hn : 55 ≤ n ∧ n < 50000) (hcs : cells + 3 ≤ 600000 ∧ slots + 25 ≤ 7302250) (kk : ∀ (n' : Nat) (K' : KK) (M' : MM) (H1 : Heap) (locs1 : List Loc), LK K' M' → n' ≤ n + 3 → 55 ≤ n' → HR G n' K' M' H1 → va_S (mw_own G) s.heap H1 locs1 → W p G.1 e room_1 s m #[Value.ref b] below meth c H1 locs1 (cells + 3) (slots + 25) Zw (F0 m 1425 ls [])) : W p G.1 e room_1 s m #[Value.ref b] below meth c H locs cells slots Zw (F0 m 1006 ls []) :=
  law_case (av := [(0, xv xs (i + 1))]) cx hr hs hl hi hL h.wf hcs rfl dec_1006 (c_X11_bent h) (fun n1 K1 M1 h1 => c_X12_bent h1.1) (sem_c_bent h hn.1) (by decide) ww_X11_bent ww_X12_bent rfl rfl ⟨⟨by decide, by decide⟩, by decide, by decide⟩ kk
theorem law_1029 (cx : LX G p s m b L xs c) (hr : HR G n K M H) (hs : va_S (mw_own G) s.heap H locs) {i : Int} (hl : lv_has ls 4 (LLv b G.2.2.2 i)) (hi : 0 ≤ i ∧ i + 5 ≤ L) (hL : L ≤ 2560) (h : LK K M) (hn : 55 ≤ n ∧ n < 50000) (hcs : cells + 3 ≤ 600000 ∧ slots + 25 ≤ 7302250) (kk : ∀ (n' : Nat) (K' : KK) (M' : MM) (H1 : Heap) (locs1 : List Loc), LK K' M' → n' ≤ n + 3 → 55 ≤ n' → HR G n' K' M' H1 → va_S (mw_own G) s.heap H1 locs1 → W p G.1 e room_1 s m #[Value.ref b] below meth c H1 locs1 (cells + 3) (slots + 25) Zw (F0 m 1425 ls [])) : W p G.1 e room_1 s m #[Value.ref b] below meth c H locs cells slots Zw (F0 m 1029 ls []) :=
  law_case (av := [(0, xv xs (i + 1)), (0, xv xs (i + 2)), (0, xv xs (i + 3))]) cx hr hs hl hi hL h.wf hcs rfl dec_1029 (c_X11_same h) (fun n1 K1 M1 h1 => c_X12_same h1.1) (sem_c_same h hn.1) (by decide) ww_X11_same ww_X12_same rfl rfl ⟨⟨by decide, by decide⟩, by decide, by decide⟩ kk
theorem law_1072 (cx : LX G p s m b L xs c) (hr : HR G n K M H) (hs : va_S (mw_own G) s.heap H locs) {i : Int} (hl : lv_has ls 4 (LLv b G.2.2.2 i)) (hi : 0 ≤ i ∧ i + 5 ≤ L) (hL : L ≤ 2560) (h : LK K M) (hn : 55 ≤ n ∧ n < 50000) (hcs : cells + 3 ≤ 600000 ∧ slots + 25 ≤ 7302250) (kk : ∀ (n' : Nat) (K' : KK) (M' : MM) (H1 : Heap) (locs1 : List Loc), LK K' M' → n' ≤ n + 3 → 55 ≤ n' → HR G n' K' M' H1 → va_S (mw_own G) s.heap H1 locs1 → W p G.1 e room_1 s m #[Value.ref b] below meth c H1 locs1 (cells + 3) (slots + 25) Zw (F0 m 1425 ls [])) : W p G.1 e room_1 s m #[Value.ref b] below meth c H locs cells slots Zw (F0 m 1072 ls []) :=
  law_case (av := [(0, xv xs (i + 1)), (0, xv xs (i + 2))]) cx hr hs hl hi hL h.wf hcs rfl dec_1072 (c_X11_lay h) (fun n1 K1 M1 h1 => c_X12_lay h1.1 h1.2.2.1) (sem_c_lay h hn.1) (by decide) ww_X11_lay ww_X12_lay rfl rfl ⟨⟨by decide, by decide⟩, by decide, by decide⟩ kk
theorem law_1105 (cx : LX G p s m b L xs c) (hr : HR G n K M H) (hs : va_S (mw_own G) s.heap H locs) {i : Int} (hl : lv_has ls 4 (LLv b G.2.2.2 i)) (hi : 0 ≤ i ∧ i + 5 ≤ L) (hL : L ≤ 2560) (h : LK K M) (hn : 55 ≤ n ∧ n < 50000) (hcs : cells + 3 ≤ 600000 ∧ slots + 25 ≤ 7302250) (kk : ∀ (n' : Nat) (K' : KK) (M' : MM) (H1 : Heap) (locs1 : List Loc), LK K' M' → n' ≤ n + 3 → 55 ≤ n' → HR G n' K' M' H1 → va_S (mw_own G) s.heap H1 locs1 → W p G.1 e room_1 s m #[Value.ref b] below meth c H1 locs1 (cells + 3) (slots + 25) Zw (F0 m 1425 ls [])) : W p G.1 e room_1 s m #[Value.ref b] below meth c H locs cells slots Zw (F0 m 1105 ls []) :=
  law_case (av := []) cx hr hs hl hi hL h.wf hcs rfl dec_1105 (c_X11_clear h) (fun n1 K1 M1 h1 => c_X12_clear h1.1.1) (sem_c_clear h hn.1) (by decide) ww_X11_clear ww_X12_clear rfl rfl ⟨⟨by decide, by decide⟩, by decide, by decide⟩ kk
theorem law_1118 (cx : LX G p s m b L xs c) (hr : HR G n K M H) (hs : va_S (mw_own G) s.heap H locs) {i : Int} (hl : lv_has ls 4 (LLv b G.2.2.2 i)) (hi : 0 ≤ i ∧ i + 5 ≤ L) (hL : L ≤ 2560) (h : LK K M) (hn : 55 ≤ n ∧ n < 50000) (hcs : cells + 3 ≤ 600000 ∧ slots + 25 ≤ 7302250) (kk : ∀ (n' : Nat) (K' : KK) (M' : MM) (H1 : Heap) (locs1 : List Loc), LK K' M' → n' ≤ n + 3 → 55 ≤ n' → HR G n' K' M' H1 → va_S (mw_own G) s.heap H1 locs1 → W p G.1 e room_1 s m #[Value.ref b] below meth c H1 locs1 (cells + 3) (slots + 25) Zw (F0 m 1425 ls [])) : W p G.1 e room_1 s m #[Value.ref b] below meth c H locs cells slots Zw (F0 m 1118 ls []) :=
  law_case (av := [(0, xv xs (i + 1))]) cx hr hs hl hi hL h.wf hcs rfl dec_1118 (c_X11_hand h) (fun n1 K1 M1 h1 => c_X12_hand h1.1 h1.2.2.1) (sem_c_hand h hn.1) (by decide) ww_X11_hand ww_X12_hand rfl rfl ⟨⟨by decide, by decide⟩, by decide, by decide⟩ kk
theorem law_1141 (cx : LX G p s m b L xs c) (hr : HR G n K M H) (hs : va_S (mw_own G) s.heap H locs) {i : Int} (hl : lv_has ls 4 (LLv b G.2.2.2 i)) (hi : 0 ≤ i ∧ i + 5 ≤ L) (hL : L ≤ 2560) (h : LK K M) (hn : 55 ≤ n ∧ n < 50000) (hcs : cells + 3 ≤ 600000 ∧ slots + 25 ≤ 7302250) (kk : ∀ (n' : Nat) (K' : KK) (M' : MM) (H1 : Heap) (locs1 : List Loc), LK K' M' → n' ≤ n + 3 → 55 ≤ n' → HR G n' K' M' H1 → va_S (mw_own G) s.heap H1 locs1 → W p G.1 e room_1 s m #[Value.ref b] below meth c H1 locs1 (cells + 3) (slots + 25) Zw (F0 m 1425 ls [])) : W p G.1 e room_1 s m #[Value.ref b] below meth c H locs cells slots Zw (F0 m 1141 ls []) :=
  law_case (av := [(0, xv xs (i + 1))]) cx hr hs hl hi hL h.wf hcs rfl dec_1141 (c_X11_unlike h) (fun n1 K1 M1 h1 => c_X12_unlike h1.1 h1.2.2.1) (sem_c_unlike h hn.1) (by decide) ww_X11_unlike ww_X12_unlike rfl rfl ⟨⟨by decide, by decide⟩, by decide, by decide⟩ kk
theorem law_1164 (cx : LX G p s m b L xs c) (hr : HR G n K M H) (hs : va_S (mw_own G) s.heap H locs) {i : Int} (hl : lv_has ls 4 (LLv b G.2.2.2 i)) (hi : 0 ≤ i ∧ i + 5 ≤ L) (hL : L ≤ 2560) (h : LK K M) (hn : 55 ≤ n ∧ n < 50000) (hcs : cells + 3 ≤ 600000 ∧ slots + 25 ≤ 7302250) (kk : ∀ (n' : Nat) (K' : KK) (M' : MM) (H1 : Heap) (locs1 : List Loc), LK K' M' → n' ≤ n + 3 → 55 ≤ n' → HR G n' K' M' H1 → va_S (mw_own G) s.heap H1 locs1 → W p G.1 e room_1 s m #[Value.ref b] below meth c H1 locs1 (cells + 3) (slots + 25) Zw (F0 m 1425 ls [])) : W p G.1 e room_1 s m #[Value.ref b] below meth c H locs cells slots Zw (F0 m 1164 ls []) :=
  law_case (av := [(0, xv xs (i + 1)), (0, xv xs (i + 2)), (0, xv xs (i + 3))]) cx hr hs hl hi hL h.wf hcs rfl dec_1164 (c_X11_act h) (fun n1 K1 M1 h1 => c_X12_act h1.1) (sem_c_act h hn.1) (by decide) ww_X11_act ww_X12_act rfl rfl ⟨⟨by decide, by decide⟩, by decide, by decide⟩ kk
theorem law_1207 (cx : LX G p s m b L xs c) (hr : HR G n K M H) (hs : va_S (mw_own G) s.heap H locs) {i : Int} (hl : lv_has ls 4 (LLv b G.2.2.2 i)) (hi : 0 ≤ i ∧ i + 5 ≤ L) (hL : L ≤ 2560) (h : LK K M) (hn : 55 ≤ n ∧ n < 50000) (hcs : cells + 3 ≤ 600000 ∧ slots + 25 ≤ 7302250) (kk : ∀ (n' : Nat) (K' : KK) (M' : MM) (H1 : Heap) (locs1 : List Loc), LK K' M' → n' ≤ n + 3 → 55 ≤ n' → HR G n' K' M' H1 → va_S (mw_own G) s.heap H1 locs1 → W p G.1 e room_1 s m #[Value.ref b] below meth c H1 locs1 (cells + 3) (slots + 25) Zw (F0 m 1425 ls [])) : W p G.1 e room_1 s m #[Value.ref b] below meth c H locs cells slots Zw (F0 m 1207 ls []) :=
  law_case (av := [(0, xv xs (i + 1))]) cx hr hs hl hi hL h.wf hcs rfl dec_1207 (c_X11_trace h) (fun n1 K1 M1 h1 => c_X12_trace h1.1.1 h1.2.2.2.2.2.2.2) (sem_c_trace h hn.1) (by decide) ww_X11_trace ww_X12_trace rfl rfl ⟨⟨by decide, by decide⟩, by decide, by decide⟩ kk
theorem law_1230 (cx : LX G p s m b L xs c) (hr : HR G n K M H) (hs : va_S (mw_own G) s.heap H locs) {i : Int} (hl : lv_has ls 4 (LLv b G.2.2.2 i)) (hi : 0 ≤ i ∧ i + 5 ≤ L) (hL : L ≤ 2560) (h : LK K M) (hn : 55 ≤ n ∧ n < 50000) (hcs : cells + 3 ≤ 600000 ∧ slots + 25 ≤ 7302250) (kk : ∀ (n' : Nat) (K' : KK) (M' : MM) (H1 : Heap) (locs1 : List Loc), LK K' M' → n' ≤ n + 3 → 55 ≤ n' → HR G n' K' M' H1 → va_S (mw_own G) s.heap H1 locs1 → W p G.1 e room_1 s m #[Value.ref b] below meth c H1 locs1 (cells + 3) (slots + 25) Zw (F0 m 1425 ls [])) : W p G.1 e room_1 s m #[Value.ref b] below meth c H locs cells slots Zw (F0 m 1230 ls []) :=
  law_case (av := [(0, xv xs (i + 1)), (0, xv xs (i + 2)), (0, xv xs (i + 3))]) cx hr hs hl hi hL h.wf hcs rfl dec_1230 (c_X11_sheet h) (fun n1 K1 M1 h1 => c_X12_sheet h1.1.1) (sem_c_sheet h hn.1) (by decide) ww_X11_sheet ww_X12_sheet rfl rfl ⟨⟨by decide, by decide⟩, by decide, by decide⟩ kk
theorem law_1273 (cx : LX G p s m b L xs c) (hr : HR G n K M H) (hs : va_S (mw_own G) s.heap H locs) {i : Int} (hl : lv_has ls 4 (LLv b G.2.2.2 i)) (hi : 0 ≤ i ∧ i + 5 ≤ L) (hL : L ≤ 2560) (h : LK K M) (hn : 55 ≤ n ∧ n < 50000) (hcs : cells + 3 ≤ 600000 ∧ slots + 25 ≤ 7302250) (kk : ∀ (n' : Nat) (K' : KK) (M' : MM) (H1 : Heap) (locs1 : List Loc), LK K' M' → n' ≤ n + 3 → 55 ≤ n' → HR G n' K' M' H1 → va_S (mw_own G) s.heap H1 locs1 → W p G.1 e room_1 s m #[Value.ref b] below meth c H1 locs1 (cells + 3) (slots + 25) Zw (F0 m 1425 ls [])) : W p G.1 e room_1 s m #[Value.ref b] below meth c H locs cells slots Zw (F0 m 1273 ls []) :=
  law_case (av := [(0, xv xs (i + 1)), (0, xv xs (i + 2)), (0, xv xs (i + 3))]) cx hr hs hl hi hL h.wf hcs rfl dec_1273 (c_X11_cell h) (fun n1 K1 M1 h1 => c_X12_cell h1.1.1 h1.2.2.2.1) (sem_c_cell h hn.1) (by decide) ww_X11_cell ww_X12_cell rfl rfl ⟨⟨by decide, by decide⟩, by decide, by decide⟩ kk
theorem law_1316 (cx : LX G p s m b L xs c) (hr : HR G n K M H) (hs : va_S (mw_own G) s.heap H locs) {i : Int} (hl : lv_has ls 4 (LLv b G.2.2.2 i)) (hi : 0 ≤ i ∧ i + 5 ≤ L) (hL : L ≤ 2560) (h : LK K M) (hn : 55 ≤ n ∧ n < 50000) (hcs : cells + 3 ≤ 600000 ∧ slots + 25 ≤ 7302250) (kk : ∀ (n' : Nat) (K' : KK) (M' : MM) (H1 : Heap) (locs1 : List Loc), LK K' M' → n' ≤ n + 3 → 55 ≤ n' → HR G n' K' M' H1 → va_S (mw_own G) s.heap H1 locs1 → W p G.1 e room_1 s m #[Value.ref b] below meth c H1 locs1 (cells + 3) (slots + 25) Zw (F0 m 1425 ls [])) : W p G.1 e room_1 s m #[Value.ref b] below meth c H locs cells slots Zw (F0 m 1316 ls []) :=
  law_case (av := [(0, xv xs (i + 1)), (0, xv xs (i + 2)), (0, xv xs (i + 3)), (0, xv xs (i + 4))]) cx hr hs hl hi hL h.wf hcs rfl dec_1316 (c_X11_pairs h) (fun n1 K1 M1 h1 => c_X12_pairs h1.1 h1.2.2.2.1) (sem_c_pairs h hn.1) (by decide) ww_X11_pairs ww_X12_pairs rfl rfl ⟨⟨by decide, by decide⟩, by decide, by decide⟩ kk
theorem law_1369 (cx : LX G p s m b L xs c) (hr : HR G n K M H) (hs : va_S (mw_own G) s.heap H locs) {i : Int} (hl : lv_has ls 4 (LLv b G.2.2.2 i)) (hi : 0 ≤ i ∧ i + 5 ≤ L) (hL : L ≤ 2560) (h : LK K M) (hn : 55 ≤ n ∧ n < 50000) (hcs : cells + 3 ≤ 600000 ∧ slots + 25 ≤ 7302250) (kk : ∀ (n' : Nat) (K' : KK) (M' : MM) (H1 : Heap) (locs1 : List Loc), LK K' M' → n' ≤ n + 3 → 55 ≤ n' → HR G n' K' M' H1 → va_S (mw_own G) s.heap H1 locs1 → W p G.1 e room_1 s m #[Value.ref b] below meth c H1 locs1 (cells + 3) (slots + 25) Zw (F0 m 1425 ls [])) : W p G.1 e room_1 s m #[Value.ref b] below meth c H locs cells slots Zw (F0 m 1369 ls []) :=
  law_case (av := [(0, xv xs (i + 1)), (0, xv xs (i + 2)), (0, xv xs (i + 3))]) cx hr hs hl hi hL h.wf hcs rfl dec_1369 (c_X11_forge h) (fun n1 K1 M1 h1 => c_X12_forge h1.1 h1.2.2.2.1 h1.2.2.2.2.1) (sem_c_forge h hn.1) (by decide) ww_X11_forge ww_X12_forge rfl rfl ⟨⟨by decide, by decide⟩, by decide, by decide⟩ kk
theorem law_1412 (cx : LX G p s m b L xs c) (hr : HR G n K M H) (hs : va_S (mw_own G) s.heap H locs) {i : Int} (hl : lv_has ls 4 (LLv b G.2.2.2 i)) (hi : 0 ≤ i ∧ i + 5 ≤ L) (hL : L ≤ 2560) (h : LK K M) (hn : 55 ≤ n ∧ n < 50000) (hcs : cells + 3 ≤ 600000 ∧ slots + 25 ≤ 7302250) (kk : ∀ (n' : Nat) (K' : KK) (M' : MM) (H1 : Heap) (locs1 : List Loc), LK K' M' → n' ≤ n + 3 → 55 ≤ n' → HR G n' K' M' H1 → va_S (mw_own G) s.heap H1 locs1 → W p G.1 e room_1 s m #[Value.ref b] below meth c H1 locs1 (cells + 3) (slots + 25) Zw (F0 m 1425 ls [])) : W p G.1 e room_1 s m #[Value.ref b] below meth c H locs cells slots Zw (F0 m 1412 ls []) :=
  law_case (av := []) cx hr hs hl hi hL h.wf hcs rfl dec_1412 (c_X11_status h.wf) (fun n1 K1 M1 h1 => c_X12_status h1.1.1) (sem_c_status h hn.1) (by decide) ww_X11_status ww_X12_status rfl rfl ⟨⟨by decide, by decide⟩, by decide, by decide⟩ kk
end CASES
