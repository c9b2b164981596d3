/-! ===== the world: the cells that the two objects hold from their making on ===== -/
def kfL : List (Int × Nat × Nat) := [(0, 0, 11), (1, 2, 8), (2, 0, 3), (3, 1, 10), (4, 0, 3), (5, 1, 10), (6, 0, 3), (7, 1, 60), (8, 3, 4), (9, 0, 6), (10, 1, 1024), (11, 1, 1024), (12, 1, 1024), (13, 1, 1024), (14, 0, 1), (15, 1, 100), (16, 1, 100), (17, 1, 10), (18, 0, 7), (19, 0, 3), (20, 1, 10), (21, 1, 10), (22, 1, 10), (23, 1, 10), (24, 1, 10), (25, 1, 10), (26, 0, 3), (27, 1, 10), (28, 0, 8), (29, 1, 20), (30, 0, 8), (31, 1, 20), (32, 0, 8), (33, 1, 20), (34, 0, 8), (35, 1, 20), (36, 0, 12), (37, 1, 8), (38, 1, 8), (39, 1, 80), (40, 1, 10), (41, 1, 10), (42, 1, 4), (43, 1, 4), (44, 1, 80), (45, 1, 60), (46, 1, 10), (47, 1, 1024), (48, 1, 1024), (49, 1, 10240), (50, 1, 10), (51, 1, 11), (52, 1, 10), (53, 1, 10), (54, 1, 10)]
def mfL : List (Int × Int × Int) := [(0, 0, 1), (0, 2, 2), (0, 3, 4), (0, 5, 6), (0, 6, 8), (0, 7, 9), (0, 8, 14), (0, 9, 18), (0, 10, 26), (2, 0, 3), (4, 0, 5), (6, 0, 7), (19, 0, 20), (26, 0, 27), (9, 0, 10), (9, 1, 11), (9, 2, 12), (9, 3, 13), (14, 0, 15), (14, 1, 16), (14, 2, 17), (18, 0, 19), (18, 1, 21), (18, 2, 22), (18, 3, 23), (18, 4, 24), (18, 5, 25), (8, 0, 28), (8, 1, 30), (8, 2, 32), (8, 3, 34), (28, 0, 29), (30, 0, 31), (32, 0, 33), (34, 0, 35), (36, 1, 37), (36, 2, 38), (36, 3, 39), (36, 6, 40), (36, 8, 41), (36, 9, 42), (36, 10, 43), (36, 11, 44), (36, 13, 45), (36, 15, 46), (36, 16, 47), (36, 17, 48), (36, 18, 49), (36, 19, 50), (36, 20, 51), (36, 24, 52), (36, 25, 53), (36, 26, 54)]
def WF (K : KK) (M : MM) : Prop := (∀ q ∈ kfL, K q.1 = q.2) ∧ ∀ q ∈ mfL, M q.1 q.2.1 = q.2.2
theorem wk_0 {K : KK} {M : MM} (h : WF K M) : K 0 = (0, 11) := h.1 (0, 0, 11) (List.mem_of_getElem? (i := 0) rfl)
theorem wk_1 {K : KK} {M : MM} (h : WF K M) : K 1 = (2, 8) := h.1 (1, 2, 8) (List.mem_of_getElem? (i := 1) rfl)
theorem wk_2 {K : KK} {M : MM} (h : WF K M) : K 2 = (0, 3) := h.1 (2, 0, 3) (List.mem_of_getElem? (i := 2) rfl)
theorem wk_3 {K : KK} {M : MM} (h : WF K M) : K 3 = (1, 10) := h.1 (3, 1, 10) (List.mem_of_getElem? (i := 3) rfl)
theorem wk_4 {K : KK} {M : MM} (h : WF K M) : K 4 = (0, 3) := h.1 (4, 0, 3) (List.mem_of_getElem? (i := 4) rfl)
theorem wk_5 {K : KK} {M : MM} (h : WF K M) : K 5 = (1, 10) := h.1 (5, 1, 10) (List.mem_of_getElem? (i := 5) rfl)
theorem wk_6 {K : KK} {M : MM} (h : WF K M) : K 6 = (0, 3) := h.1 (6, 0, 3) (List.mem_of_getElem? (i := 6) rfl)
theorem wk_7 {K : KK} {M : MM} (h : WF K M) : K 7 = (1, 60) := h.1 (7, 1, 60) (List.mem_of_getElem? (i := 7) rfl)
theorem wk_8 {K : KK} {M : MM} (h : WF K M) : K 8 = (3, 4) := h.1 (8, 3, 4) (List.mem_of_getElem? (i := 8) rfl)
theorem wk_9 {K : KK} {M : MM} (h : WF K M) : K 9 = (0, 6) := h.1 (9, 0, 6) (List.mem_of_getElem? (i := 9) rfl)
theorem wk_10 {K : KK} {M : MM} (h : WF K M) : K 10 = (1, 1024) := h.1 (10, 1, 1024) (List.mem_of_getElem? (i := 10) rfl)
theorem wk_11 {K : KK} {M : MM} (h : WF K M) : K 11 = (1, 1024) := h.1 (11, 1, 1024) (List.mem_of_getElem? (i := 11) rfl)
theorem wk_12 {K : KK} {M : MM} (h : WF K M) : K 12 = (1, 1024) := h.1 (12, 1, 1024) (List.mem_of_getElem? (i := 12) rfl)
theorem wk_13 {K : KK} {M : MM} (h : WF K M) : K 13 = (1, 1024) := h.1 (13, 1, 1024) (List.mem_of_getElem? (i := 13) rfl)
theorem wk_14 {K : KK} {M : MM} (h : WF K M) : K 14 = (0, 1) := h.1 (14, 0, 1) (List.mem_of_getElem? (i := 14) rfl)
theorem wk_15 {K : KK} {M : MM} (h : WF K M) : K 15 = (1, 100) := h.1 (15, 1, 100) (List.mem_of_getElem? (i := 15) rfl)
theorem wk_16 {K : KK} {M : MM} (h : WF K M) : K 16 = (1, 100) := h.1 (16, 1, 100) (List.mem_of_getElem? (i := 16) rfl)
theorem wk_17 {K : KK} {M : MM} (h : WF K M) : K 17 = (1, 10) := h.1 (17, 1, 10) (List.mem_of_getElem? (i := 17) rfl)
theorem wk_18 {K : KK} {M : MM} (h : WF K M) : K 18 = (0, 7) := h.1 (18, 0, 7) (List.mem_of_getElem? (i := 18) rfl)
theorem wk_19 {K : KK} {M : MM} (h : WF K M) : K 19 = (0, 3) := h.1 (19, 0, 3) (List.mem_of_getElem? (i := 19) rfl)
theorem wk_20 {K : KK} {M : MM} (h : WF K M) : K 20 = (1, 10) := h.1 (20, 1, 10) (List.mem_of_getElem? (i := 20) rfl)
theorem wk_21 {K : KK} {M : MM} (h : WF K M) : K 21 = (1, 10) := h.1 (21, 1, 10) (List.mem_of_getElem? (i := 21) rfl)
theorem wk_22 {K : KK} {M : MM} (h : WF K M) : K 22 = (1, 10) := h.1 (22, 1, 10) (List.mem_of_getElem? (i := 22) rfl)
theorem wk_23 {K : KK} {M : MM} (h : WF K M) : K 23 = (1, 10) := h.1 (23, 1, 10) (List.mem_of_getElem? (i := 23) rfl)
theorem wk_24 {K : KK} {M : MM} (h : WF K M) : K 24 = (1, 10) := h.1 (24, 1, 10) (List.mem_of_getElem? (i := 24) rfl)
theorem wk_25 {K : KK} {M : MM} (h : WF K M) : K 25 = (1, 10) := h.1 (25, 1, 10) (List.mem_of_getElem? (i := 25) rfl)
theorem wk_26 {K : KK} {M : MM} (h : WF K M) : K 26 = (0, 3) := h.1 (26, 0, 3) (List.mem_of_getElem? (i := 26) rfl)
theorem wk_27 {K : KK} {M : MM} (h : WF K M) : K 27 = (1, 10) := h.1 (27, 1, 10) (List.mem_of_getElem? (i := 27) rfl)
theorem wk_28 {K : KK} {M : MM} (h : WF K M) : K 28 = (0, 8) := h.1 (28, 0, 8) (List.mem_of_getElem? (i := 28) rfl)
theorem wk_29 {K : KK} {M : MM} (h : WF K M) : K 29 = (1, 20) := h.1 (29, 1, 20) (List.mem_of_getElem? (i := 29) rfl)
theorem wk_30 {K : KK} {M : MM} (h : WF K M) : K 30 = (0, 8) := h.1 (30, 0, 8) (List.mem_of_getElem? (i := 30) rfl)
theorem wk_31 {K : KK} {M : MM} (h : WF K M) : K 31 = (1, 20) := h.1 (31, 1, 20) (List.mem_of_getElem? (i := 31) rfl)
theorem wk_32 {K : KK} {M : MM} (h : WF K M) : K 32 = (0, 8) := h.1 (32, 0, 8) (List.mem_of_getElem? (i := 32) rfl)
theorem wk_33 {K : KK} {M : MM} (h : WF K M) : K 33 = (1, 20) := h.1 (33, 1, 20) (List.mem_of_getElem? (i := 33) rfl)
theorem wk_34 {K : KK} {M : MM} (h : WF K M) : K 34 = (0, 8) := h.1 (34, 0, 8) (List.mem_of_getElem? (i := 34) rfl)
theorem wk_35 {K : KK} {M : MM} (h : WF K M) : K 35 = (1, 20) := h.1 (35, 1, 20) (List.mem_of_getElem? (i := 35) rfl)
theorem wk_36 {K : KK} {M : MM} (h : WF K M) : K 36 = (0, 12) := h.1 (36, 0, 12) (List.mem_of_getElem? (i := 36) rfl)
theorem wk_37 {K : KK} {M : MM} (h : WF K M) : K 37 = (1, 8) := h.1 (37, 1, 8) (List.mem_of_getElem? (i := 37) rfl)
theorem wk_38 {K : KK} {M : MM} (h : WF K M) : K 38 = (1, 8) := h.1 (38, 1, 8) (List.mem_of_getElem? (i := 38) rfl)
theorem wk_39 {K : KK} {M : MM} (h : WF K M) : K 39 = (1, 80) := h.1 (39, 1, 80) (List.mem_of_getElem? (i := 39) rfl)
theorem wk_40 {K : KK} {M : MM} (h : WF K M) : K 40 = (1, 10) := h.1 (40, 1, 10) (List.mem_of_getElem? (i := 40) rfl)
theorem wk_41 {K : KK} {M : MM} (h : WF K M) : K 41 = (1, 10) := h.1 (41, 1, 10) (List.mem_of_getElem? (i := 41) rfl)
theorem wk_42 {K : KK} {M : MM} (h : WF K M) : K 42 = (1, 4) := h.1 (42, 1, 4) (List.mem_of_getElem? (i := 42) rfl)
theorem wk_43 {K : KK} {M : MM} (h : WF K M) : K 43 = (1, 4) := h.1 (43, 1, 4) (List.mem_of_getElem? (i := 43) rfl)
theorem wk_44 {K : KK} {M : MM} (h : WF K M) : K 44 = (1, 80) := h.1 (44, 1, 80) (List.mem_of_getElem? (i := 44) rfl)
theorem wk_45 {K : KK} {M : MM} (h : WF K M) : K 45 = (1, 60) := h.1 (45, 1, 60) (List.mem_of_getElem? (i := 45) rfl)
theorem wk_46 {K : KK} {M : MM} (h : WF K M) : K 46 = (1, 10) := h.1 (46, 1, 10) (List.mem_of_getElem? (i := 46) rfl)
theorem wk_47 {K : KK} {M : MM} (h : WF K M) : K 47 = (1, 1024) := h.1 (47, 1, 1024) (List.mem_of_getElem? (i := 47) rfl)
theorem wk_48 {K : KK} {M : MM} (h : WF K M) : K 48 = (1, 1024) := h.1 (48, 1, 1024) (List.mem_of_getElem? (i := 48) rfl)
theorem wk_49 {K : KK} {M : MM} (h : WF K M) : K 49 = (1, 10240) := h.1 (49, 1, 10240) (List.mem_of_getElem? (i := 49) rfl)
theorem wk_50 {K : KK} {M : MM} (h : WF K M) : K 50 = (1, 10) := h.1 (50, 1, 10) (List.mem_of_getElem? (i := 50) rfl)
theorem wk_51 {K : KK} {M : MM} (h : WF K M) : K 51 = (1, 11) := h.1 (51, 1, 11) (List.mem_of_getElem? (i := 51) rfl)
theorem wk_52 {K : KK} {M : MM} (h : WF K M) : K 52 = (1, 10) := h.1 (52, 1, 10) (List.mem_of_getElem? (i := 52) rfl)
theorem wk_53 {K : KK} {M : MM} (h : WF K M) : K 53 = (1, 10) := h.1 (53, 1, 10) (List.mem_of_getElem? (i := 53) rfl)
theorem wk_54 {K : KK} {M : MM} (h : WF K M) : K 54 = (1, 10) := h.1 (54, 1, 10) (List.mem_of_getElem? (i := 54) rfl)
theorem wm_0_0 {K : KK} {M : MM} (h : WF K M) : M 0 0 = 1 := h.2 (0, 0, 1) (List.mem_of_getElem? (i := 0) rfl)
theorem wm_0_2 {K : KK} {M : MM} (h : WF K M) : M 0 2 = 2 := h.2 (0, 2, 2) (List.mem_of_getElem? (i := 1) rfl)
theorem wm_0_3 {K : KK} {M : MM} (h : WF K M) : M 0 3 = 4 := h.2 (0, 3, 4) (List.mem_of_getElem? (i := 2) rfl)
theorem wm_0_5 {K : KK} {M : MM} (h : WF K M) : M 0 5 = 6 := h.2 (0, 5, 6) (List.mem_of_getElem? (i := 3) rfl)
theorem wm_0_6 {K : KK} {M : MM} (h : WF K M) : M 0 6 = 8 := h.2 (0, 6, 8) (List.mem_of_getElem? (i := 4) rfl)
theorem wm_0_7 {K : KK} {M : MM} (h : WF K M) : M 0 7 = 9 := h.2 (0, 7, 9) (List.mem_of_getElem? (i := 5) rfl)
theorem wm_0_8 {K : KK} {M : MM} (h : WF K M) : M 0 8 = 14 := h.2 (0, 8, 14) (List.mem_of_getElem? (i := 6) rfl)
theorem wm_0_9 {K : KK} {M : MM} (h : WF K M) : M 0 9 = 18 := h.2 (0, 9, 18) (List.mem_of_getElem? (i := 7) rfl)
theorem wm_0_10 {K : KK} {M : MM} (h : WF K M) : M 0 10 = 26 := h.2 (0, 10, 26) (List.mem_of_getElem? (i := 8) rfl)
theorem wm_2_0 {K : KK} {M : MM} (h : WF K M) : M 2 0 = 3 := h.2 (2, 0, 3) (List.mem_of_getElem? (i := 9) rfl)
theorem wm_4_0 {K : KK} {M : MM} (h : WF K M) : M 4 0 = 5 := h.2 (4, 0, 5) (List.mem_of_getElem? (i := 10) rfl)
theorem wm_6_0 {K : KK} {M : MM} (h : WF K M) : M 6 0 = 7 := h.2 (6, 0, 7) (List.mem_of_getElem? (i := 11) rfl)
theorem wm_19_0 {K : KK} {M : MM} (h : WF K M) : M 19 0 = 20 := h.2 (19, 0, 20) (List.mem_of_getElem? (i := 12) rfl)
theorem wm_26_0 {K : KK} {M : MM} (h : WF K M) : M 26 0 = 27 := h.2 (26, 0, 27) (List.mem_of_getElem? (i := 13) rfl)
theorem wm_9_0 {K : KK} {M : MM} (h : WF K M) : M 9 0 = 10 := h.2 (9, 0, 10) (List.mem_of_getElem? (i := 14) rfl)
theorem wm_9_1 {K : KK} {M : MM} (h : WF K M) : M 9 1 = 11 := h.2 (9, 1, 11) (List.mem_of_getElem? (i := 15) rfl)
theorem wm_9_2 {K : KK} {M : MM} (h : WF K M) : M 9 2 = 12 := h.2 (9, 2, 12) (List.mem_of_getElem? (i := 16) rfl)
theorem wm_9_3 {K : KK} {M : MM} (h : WF K M) : M 9 3 = 13 := h.2 (9, 3, 13) (List.mem_of_getElem? (i := 17) rfl)
theorem wm_14_0 {K : KK} {M : MM} (h : WF K M) : M 14 0 = 15 := h.2 (14, 0, 15) (List.mem_of_getElem? (i := 18) rfl)
theorem wm_14_1 {K : KK} {M : MM} (h : WF K M) : M 14 1 = 16 := h.2 (14, 1, 16) (List.mem_of_getElem? (i := 19) rfl)
theorem wm_14_2 {K : KK} {M : MM} (h : WF K M) : M 14 2 = 17 := h.2 (14, 2, 17) (List.mem_of_getElem? (i := 20) rfl)
theorem wm_18_0 {K : KK} {M : MM} (h : WF K M) : M 18 0 = 19 := h.2 (18, 0, 19) (List.mem_of_getElem? (i := 21) rfl)
theorem wm_18_1 {K : KK} {M : MM} (h : WF K M) : M 18 1 = 21 := h.2 (18, 1, 21) (List.mem_of_getElem? (i := 22) rfl)
theorem wm_18_2 {K : KK} {M : MM} (h : WF K M) : M 18 2 = 22 := h.2 (18, 2, 22) (List.mem_of_getElem? (i := 23) rfl)
theorem wm_18_3 {K : KK} {M : MM} (h : WF K M) : M 18 3 = 23 := h.2 (18, 3, 23) (List.mem_of_getElem? (i := 24) rfl)
theorem wm_18_4 {K : KK} {M : MM} (h : WF K M) : M 18 4 = 24 := h.2 (18, 4, 24) (List.mem_of_getElem? (i := 25) rfl)
theorem wm_18_5 {K : KK} {M : MM} (h : WF K M) : M 18 5 = 25 := h.2 (18, 5, 25) (List.mem_of_getElem? (i := 26) rfl)
theorem wm_8_0 {K : KK} {M : MM} (h : WF K M) : M 8 0 = 28 := h.2 (8, 0, 28) (List.mem_of_getElem? (i := 27) rfl)
theorem wm_8_1 {K : KK} {M : MM} (h : WF K M) : M 8 1 = 30 := h.2 (8, 1, 30) (List.mem_of_getElem? (i := 28) rfl)
theorem wm_8_2 {K : KK} {M : MM} (h : WF K M) : M 8 2 = 32 := h.2 (8, 2, 32) (List.mem_of_getElem? (i := 29) rfl)
theorem wm_8_3 {K : KK} {M : MM} (h : WF K M) : M 8 3 = 34 := h.2 (8, 3, 34) (List.mem_of_getElem? (i := 30) rfl)
theorem wm_28_0 {K : KK} {M : MM} (h : WF K M) : M 28 0 = 29 := h.2 (28, 0, 29) (List.mem_of_getElem? (i := 31) rfl)
theorem wm_30_0 {K : KK} {M : MM} (h : WF K M) : M 30 0 = 31 := h.2 (30, 0, 31) (List.mem_of_getElem? (i := 32) rfl)
theorem wm_32_0 {K : KK} {M : MM} (h : WF K M) : M 32 0 = 33 := h.2 (32, 0, 33) (List.mem_of_getElem? (i := 33) rfl)
theorem wm_34_0 {K : KK} {M : MM} (h : WF K M) : M 34 0 = 35 := h.2 (34, 0, 35) (List.mem_of_getElem? (i := 34) rfl)
theorem wm_36_1 {K : KK} {M : MM} (h : WF K M) : M 36 1 = 37 := h.2 (36, 1, 37) (List.mem_of_getElem? (i := 35) rfl)
theorem wm_36_2 {K : KK} {M : MM} (h : WF K M) : M 36 2 = 38 := h.2 (36, 2, 38) (List.mem_of_getElem? (i := 36) rfl)
theorem wm_36_3 {K : KK} {M : MM} (h : WF K M) : M 36 3 = 39 := h.2 (36, 3, 39) (List.mem_of_getElem? (i := 37) rfl)
theorem wm_36_6 {K : KK} {M : MM} (h : WF K M) : M 36 6 = 40 := h.2 (36, 6, 40) (List.mem_of_getElem? (i := 38) rfl)
theorem wm_36_8 {K : KK} {M : MM} (h : WF K M) : M 36 8 = 41 := h.2 (36, 8, 41) (List.mem_of_getElem? (i := 39) rfl)
theorem wm_36_9 {K : KK} {M : MM} (h : WF K M) : M 36 9 = 42 := h.2 (36, 9, 42) (List.mem_of_getElem? (i := 40) rfl)
theorem wm_36_10 {K : KK} {M : MM} (h : WF K M) : M 36 10 = 43 := h.2 (36, 10, 43) (List.mem_of_getElem? (i := 41) rfl)
theorem wm_36_11 {K : KK} {M : MM} (h : WF K M) : M 36 11 = 44 := h.2 (36, 11, 44) (List.mem_of_getElem? (i := 42) rfl)
theorem wm_36_13 {K : KK} {M : MM} (h : WF K M) : M 36 13 = 45 := h.2 (36, 13, 45) (List.mem_of_getElem? (i := 43) rfl)
theorem wm_36_15 {K : KK} {M : MM} (h : WF K M) : M 36 15 = 46 := h.2 (36, 15, 46) (List.mem_of_getElem? (i := 44) rfl)
theorem wm_36_16 {K : KK} {M : MM} (h : WF K M) : M 36 16 = 47 := h.2 (36, 16, 47) (List.mem_of_getElem? (i := 45) rfl)
theorem wm_36_17 {K : KK} {M : MM} (h : WF K M) : M 36 17 = 48 := h.2 (36, 17, 48) (List.mem_of_getElem? (i := 46) rfl)
theorem wm_36_18 {K : KK} {M : MM} (h : WF K M) : M 36 18 = 49 := h.2 (36, 18, 49) (List.mem_of_getElem? (i := 47) rfl)
theorem wm_36_19 {K : KK} {M : MM} (h : WF K M) : M 36 19 = 50 := h.2 (36, 19, 50) (List.mem_of_getElem? (i := 48) rfl)
theorem wm_36_20 {K : KK} {M : MM} (h : WF K M) : M 36 20 = 51 := h.2 (36, 20, 51) (List.mem_of_getElem? (i := 49) rfl)
theorem wm_36_24 {K : KK} {M : MM} (h : WF K M) : M 36 24 = 52 := h.2 (36, 24, 52) (List.mem_of_getElem? (i := 50) rfl)
theorem wm_36_25 {K : KK} {M : MM} (h : WF K M) : M 36 25 = 53 := h.2 (36, 25, 53) (List.mem_of_getElem? (i := 51) rfl)
theorem wm_36_26 {K : KK} {M : MM} (h : WF K M) : M 36 26 = 54 := h.2 (36, 26, 54) (List.mem_of_getElem? (i := 52) rfl)
/-- a store that touches no fixed reference -/
def nfx (a k : Int) : Bool := mfL.all (fun q => !(decide (q.1 = a)) || !(decide (q.2.1 = k)))
def nfa (a : Int) : Bool := mfL.all (fun q => !(decide (q.1 = a)))
theorem WF.st {K : KK} {M : MM} (h : WF K M) {a k v : Int} (hn : ∀ q ∈ mfL, q.1 = a → q.2.1 = k → False) : WF K (st2 M a k v) := by
  refine ⟨h.1, fun q hq => ?_⟩
  rw [← h.2 q hq]
  unfold st2
  split
  · rename_i h1
    rw [if_neg (fun h2 => hn q hq h1 h2)]
  · rfl
/-- a row of numbers, anew -/
def setA (M : MM) (a : Int) (f : Int → Int) : MM := fun x j => if x = a then f j else M x j
theorem setA_ne (M : MM) {a x : Int} {f : Int → Int} (h : x ≠ a) : setA M a f x = M x := by funext j; unfold setA; rw [if_neg h]
theorem setA_at (M : MM) (a : Int) (f : Int → Int) : setA M a f a = f := by funext j; unfold setA; rw [if_pos rfl]
theorem st2_setA (M : MM) (a k v : Int) (f : Int → Int) : st2 (setA M a f) a k v = setA M a (fun j => if j = k then v else f j) := by
  funext x j
  unfold st2 setA
  split <;> rfl
theorem setA_setA (M : MM) (a : Int) (f g : Int → Int) : setA (setA M a f) a g = setA M a g := by
  funext x j
  unfold setA
  split <;> rfl
theorem setA_self (M : MM) (a : Int) : setA M a (M a) = M := by
  funext x j
  unfold setA
  split
  · rename_i h; rw [h]
  · rfl
theorem st2_as (M : MM) (a k v : Int) : st2 M a k v = setA M a (fun j => if j = k then v else M a j) := by
  funext x j
  unfold st2 setA
  split
  · rename_i h; rw [h]
  · rfl
theorem WF.arr {K : KK} {M : MM} (a : Int) (hn : nfa a = true) (h : WF K M) {k v : Int} : WF K (st2 M a k v) := h.st (fun q hq h1 _ => by
  have := List.all_eq_true.mp hn q hq
  simp [h1] at this)
theorem WF.setA {K : KK} {M : MM} (a : Int) (hn : nfa a = true) (h : WF K M) {f : Int → Int} : WF K (setA M a f) := by
  refine ⟨h.1, fun q hq => ?_⟩
  have hne : q.1 ≠ a := fun e => by
    have := List.all_eq_true.mp hn q hq
    simp [e] at this
  rw [setA_ne M hne]
  exact h.2 q hq
theorem WF.of {K : KK} {M M1 : MM} (h : WF K M) (he : ∀ q ∈ mfL, M1 q.1 q.2.1 = M q.1 q.2.1) : WF K M1 := ⟨h.1, fun q hq => (he q hq).trans (h.2 q hq)⟩
theorem WF.fld {K : KK} {M : MM} (a k : Int) (hn : nfx a k = true) (h : WF K M) {v : Int} : WF K (st2 M a k v) := h.st (fun q hq h1 h2 => by
  have := List.all_eq_true.mp hn q hq
  simp [h1, h2] at this)
theorem mfL_lt : ∀ q ∈ mfL, q.1 < 55 := by decide
theorem WF.dyn {K : KK} {M : MM} (h : WF K M) {a k v : Int} (ha : 55 ≤ a) : WF K (st2 M a k v) := h.st (fun q hq h1 _ => by have := mfL_lt q hq; omega)
/-! ===== rows with plain numbers, truths, answers ===== -/
def B (b : Bool) : Int := match b with
  | true => 1
  | false => 0
theorem B_01 (b : Bool) : B b = 0 ∨ B b = 1 := by cases b <;> simp [B]
section ROWS2
variable {G : GG} {mi : MI} {R : Room} {Z : ZZ} {cs : Nat × Nat} {pc : Nat} {lc : LL} {r : List VV} {n : Nat} {K : KK} {M M0 : MM} {Q : QQ}
theorem y_iadd {x y : Int} (hd : decode mi.2.1 pc = .ok (.iadd, 1)) (h : inR (x + y)) (kk : MW G mi R Z cs (pc + 1) lc ((0, x + y) :: r) n K M) : MW G mi R Z cs pc lc ((0, y) :: (0, x) :: r) n K M := x_iadd (w := false) h hd kk
theorem y_isub {x y : Int} (hd : decode mi.2.1 pc = .ok (.isub, 1)) (h : inR (x - y)) (kk : MW G mi R Z cs (pc + 1) lc ((0, x - y) :: r) n K M) : MW G mi R Z cs pc lc ((0, y) :: (0, x) :: r) n K M := x_isub (w := false) h hd kk
theorem y_imul {x y : Int} (hd : decode mi.2.1 pc = .ok (.imul, 1)) (h : inR (x * y)) (kk : MW G mi R Z cs (pc + 1) lc ((0, x * y) :: r) n K M) : MW G mi R Z cs pc lc ((0, y) :: (0, x) :: r) n K M := x_imul (w := false) h hd kk
theorem y_ineg {x : Int} (hd : decode mi.2.1 pc = .ok (.ineg, 1)) (h : inR (-x)) (kk : MW G mi R Z cs (pc + 1) lc ((0, -x) :: r) n K M) : MW G mi R Z cs pc lc ((0, x) :: r) n K M := x_ineg (w := false) h hd kk
theorem y_iinc {i : Nat} {x v : Int} (hd : decode mi.2.1 pc = .ok (.iinc i v, 3)) (hk : lk i lc = some (0, x)) (hn : i < mi.2.2.2.1) (h : inR (x + v)) (kk : MW G mi R Z cs (pc + 3) (sl1 i (0, x + v) lc) r n K M) : MW G mi R Z cs pc lc r n K M := x_iinc (w := false) hd hk hn h kk
theorem w_iadd {x y : Int} (hd : decode mi.2.1 pc = .ok (.iadd, 1)) (kk : MW G mi R Z cs (pc + 1) lc ((0, wr (x + y)) :: r) n K M) : MW G mi R Z cs pc lc ((0, y) :: (0, x) :: r) n K M := x_iadd (w := true) trivial hd kk
theorem w_isub {x y : Int} (hd : decode mi.2.1 pc = .ok (.isub, 1)) (kk : MW G mi R Z cs (pc + 1) lc ((0, wr (x - y)) :: r) n K M) : MW G mi R Z cs pc lc ((0, y) :: (0, x) :: r) n K M := x_isub (w := true) trivial hd kk
theorem w_imul {x y : Int} (hd : decode mi.2.1 pc = .ok (.imul, 1)) (kk : MW G mi R Z cs (pc + 1) lc ((0, wr (x * y)) :: r) n K M) : MW G mi R Z cs pc lc ((0, y) :: (0, x) :: r) n K M := x_imul (w := true) trivial hd kk
theorem w_ineg {x : Int} (hd : decode mi.2.1 pc = .ok (.ineg, 1)) (kk : MW G mi R Z cs (pc + 1) lc ((0, wr (-x)) :: r) n K M) : MW G mi R Z cs pc lc ((0, x) :: r) n K M := x_ineg (w := true) trivial hd kk
theorem x_if_eqB {b : Bool} {off : Int} {tgt : Nat} (hd : decode mi.2.1 pc = .ok (.ifCond .eq off, 3)) (ht : (pc : Int) + off = (tgt : Int)) (kt : b = false → MW G mi R Z cs tgt lc r n K M) (kf : b = true → MW G mi R Z cs (pc + 3) lc r n K M) : MW G mi R Z cs pc lc ((0, B b) :: r) n K M :=
  x_if_eq hd ht (fun h => kt (by cases b; rfl; exact absurd h (by decide))) (fun h => kf (by cases b; exact absurd rfl h; rfl))
theorem x_if_neB {b : Bool} {off : Int} {tgt : Nat} (hd : decode mi.2.1 pc = .ok (.ifCond .ne off, 3)) (ht : (pc : Int) + off = (tgt : Int)) (kt : b = true → MW G mi R Z cs tgt lc r n K M) (kf : b = false → MW G mi R Z cs (pc + 3) lc r n K M) : MW G mi R Z cs pc lc ((0, B b) :: r) n K M :=
  x_if_ne hd ht (fun h => kt (by cases b; exact absurd rfl h; rfl)) (fun h => kf (by cases b; rfl; exact absurd (by decide) h))
theorem r_i {x v : Int} (hd : decode mi.2.1 pc = .ok (.ireturn, 1)) (hrt : mi.2.2.2.2 = some .int) (hx : x = v) (hM : M = M0) : MW G mi R (MZ G (PQ (some (0, v)) n K M0) cs.1 cs.2) cs pc lc [(0, x)] n K M := x_iret hd hrt ⟨by rw [hx], rfl, rfl, hM⟩
theorem r_b {b v : Bool} (hd : decode mi.2.1 pc = .ok (.ireturn, 1)) (hrt : mi.2.2.2.2 = some .boolean) (hx : b = v) (hM : M = M0) : MW G mi R (MZ G (PQ (some (0, B v)) n K M0) cs.1 cs.2) cs pc lc [(0, B b)] n K M := x_zret hd hrt (B_01 b) ⟨by rw [hx], rfl, rfl, hM⟩
theorem r_l {x v : Int} (hd : decode mi.2.1 pc = .ok (.lreturn, 1)) (hrt : mi.2.2.2.2 = some .long) (hx : x = v) (hM : M = M0) : MW G mi R (MZ G (PQ (some (2, v)) n K M0) cs.1 cs.2) cs pc lc [(2, x)] n K M := x_lret hd hrt ⟨by rw [hx], rfl, rfl, hM⟩
theorem r_a {x v : Int} {C : String} (hd : decode mi.2.1 pc = .ok (.areturn, 1)) (hrt : mi.2.2.2.2 = some (.object C)) (hx : x = v) (hM : M = M0) : MW G mi R (MZ G (PQ (some (1, v)) n K M0) cs.1 cs.2) cs pc lc [(1, x)] n K M := x_aret hd hrt ⟨by rw [hx], rfl, rfl, hM⟩
theorem r_v (hd : decode mi.2.1 pc = .ok (.return_, 1)) (hrt : mi.2.2.2.2 = none) (hM : M = M0) : MW G mi R (MZ G (PQ none n K M0) cs.1 cs.2) cs pc lc [] n K M := x_vret hd hrt ⟨rfl, rfl, rfl, hM⟩
theorem pqK {mc ms : Nat} {rr0 : Option VV} {n0 : Nat} {K0 : KK} {lc' : LL} (kk : MW G mi R Z (cs.1 + mc, cs.2 + ms) pc lc' (rr0.toList ++ r) n0 K0 M0) : ∀ (rr : Option VV) (n' : Nat) (K' : KK) (M' : MM), PQ rr0 n0 K0 M0 rr n' K' M' → MW G mi R Z (cs.1 + mc, cs.2 + ms) pc lc' (rr.toList ++ r) n' K' M' := by
  intro rr n' K' M' hq
  obtain ⟨rfl, rfl, rfl, rfl⟩ := hq
  exact kk
/-- the model's own rows of numbers, that answers alone use -/
def sc (M M1 : MM) : Prop := ∀ x : Int, ¬ ((46 ≤ x ∧ x ≤ 51) ∨ x = 54) → M1 x = M x
theorem sc.rf : sc M M := fun _ _ => rfl
theorem sc.tr {M1 M2 : MM} (h1 : sc M M1) (h2 : sc M1 M2) : sc M M2 := fun x hx => (h2 x hx).trans (h1 x hx)
theorem sc.st {M1 : MM} (a : Int) (ha : ((decide (46 ≤ a) && decide (a ≤ 51)) || decide (a = 54)) = true) (h : sc M M1) {k v : Int} : sc M (st2 M1 a k v) := fun x hx => by
  have : x ≠ a := by intro e; subst e; simp at ha; exact hx ha
  rw [st2_ne M1 this]; exact h x hx
def SQ (rr0 : Option VV) (n0 : Nat) (K0 : KK) (M0 : MM) (E : MM → Prop) : QQ := fun rr n K M => rr = rr0 ∧ n = n0 ∧ K = K0 ∧ sc M0 M ∧ E M
theorem sqK {mc ms : Nat} {rr0 : Option VV} {n0 : Nat} {K0 : KK} {lc' : LL} {E : MM → Prop} (kk : ∀ M1, sc M0 M1 → E M1 → MW G mi R Z (cs.1 + mc, cs.2 + ms) pc lc' (rr0.toList ++ r) n0 K0 M1) : ∀ (rr : Option VV) (n' : Nat) (K' : KK) (M' : MM), SQ rr0 n0 K0 M0 E rr n' K' M' → MW G mi R Z (cs.1 + mc, cs.2 + ms) pc lc' (rr.toList ++ r) n' K' M' := by
  intro rr n' K' M' hq
  obtain ⟨rfl, rfl, rfl, h1, h2⟩ := hq
  exact kk M' h1 h2
theorem rs_i {x v : Int} {E : MM → Prop} (hd : decode mi.2.1 pc = .ok (.ireturn, 1)) (hrt : mi.2.2.2.2 = some .int) (hx : x = v) (hs : sc M0 M) (hE : E M) : MW G mi R (MZ G (SQ (some (0, v)) n K M0 E) cs.1 cs.2) cs pc lc [(0, x)] n K M := x_iret hd hrt ⟨by rw [hx], rfl, rfl, hs, hE⟩
theorem rs_b {b v : Bool} {E : MM → Prop} (hd : decode mi.2.1 pc = .ok (.ireturn, 1)) (hrt : mi.2.2.2.2 = some .boolean) (hx : b = v) (hs : sc M0 M) (hE : E M) : MW G mi R (MZ G (SQ (some (0, B v)) n K M0 E) cs.1 cs.2) cs pc lc [(0, B b)] n K M := x_zret hd hrt (B_01 b) ⟨by rw [hx], rfl, rfl, hs, hE⟩
theorem rs_l {x v : Int} {E : MM → Prop} (hd : decode mi.2.1 pc = .ok (.lreturn, 1)) (hrt : mi.2.2.2.2 = some .long) (hx : x = v) (hs : sc M0 M) (hE : E M) : MW G mi R (MZ G (SQ (some (2, v)) n K M0 E) cs.1 cs.2) cs pc lc [(2, x)] n K M := x_lret hd hrt ⟨by rw [hx], rfl, rfl, hs, hE⟩
theorem rs_v {E : MM → Prop} (hd : decode mi.2.1 pc = .ok (.return_, 1)) (hrt : mi.2.2.2.2 = none) (hs : sc M0 M) (hE : E M) : MW G mi R (MZ G (SQ none n K M0 E) cs.1 cs.2) cs pc lc [] n K M := x_vret hd hrt ⟨rfl, rfl, rfl, hs, hE⟩
theorem MW.toB {b : Bool} {x : Int} (h : x = B b) (kk : MW G mi R Z cs pc lc ((0, B b) :: r) n K M) : MW G mi R Z cs pc lc ((0, x) :: r) n K M := h ▸ kk
theorem MW.stk {r' : List VV} (h : r = r') (kk : MW G mi R Z cs pc lc r' n K M) : MW G mi R Z cs pc lc r n K M := h ▸ kk
theorem MW.mem {M' : MM} (h : M = M') (kk : MW G mi R Z cs pc lc r n K M') : MW G mi R Z cs pc lc r n K M := h ▸ kk
theorem fitR {cm : MI} {d d' : Nat} (h : d < d') (hm : cm.2.2.2.1 ≤ 45) : Fit (rmd d' 0 0) (0, 0) cm d 0 0 := ⟨h, by show 64 * d + 64 ≤ 64 * d'; omega, hm, Nat.le_refl 0, Nat.le_refl 0⟩
end ROWS2

