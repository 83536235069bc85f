/-! The fixed cells: the class has 1..32 (33, 34 its first Call and what that held), the model 35..62 -/
def fcT : List (Nat × Nat × Int) := [(1, 9, 0), (2, 20, 160), (3, 6, 0), (4, 20, 160), (5, 20, 160), (6, 20, 160), (7, 5, 0), (8, 20, 320), (9, 20, 320), (10, 20, 5), (11, 5, 0), (12, 20, 320), (13, 20, 320), (14, 20, 5), (15, 7, 0), (16, 20, 8), (17, 8, 0), (18, 21, 364), (19, 2, 0), (20, 20, 16), (21, 20, 16), (22, 20, 16), (23, 0, 0), (24, 20, 20), (25, 20, 20), (26, 20, 20), (27, 22, 2), (28, 4, 0), (29, 3, 0), (30, 20, 960), (31, 3, 0), (32, 20, 960)]
def fcR : List (Nat × Int × Nat) := [(1, 0, 2), (1, 3, 3), (1, 6, 15), (1, 7, 29), (1, 8, 31), (1, 9, 17), (1, 10, 19), (1, 11, 23), (1, 12, 27), (3, 0, 4), (3, 1, 5), (3, 2, 6), (7, 0, 8), (7, 1, 9), (7, 2, 10), (11, 0, 12), (11, 1, 13), (11, 2, 14), (15, 0, 16), (17, 0, 18), (19, 0, 20), (19, 1, 21), (19, 2, 22), (23, 0, 24), (23, 1, 25), (23, 2, 26), (29, 0, 15), (29, 1, 28), (29, 2, 30), (31, 0, 15), (31, 1, 28), (31, 2, 32)]
def fmT : List (Nat × Nat × Int) := [(35, 10, 0), (36, 20, 190), (37, 20, 2), (38, 20, 160), (39, 20, 20), (40, 20, 20), (41, 20, 20), (42, 20, 160), (43, 20, 5), (44, 20, 364), (45, 20, 364), (46, 20, 364), (47, 20, 364), (48, 20, 364), (49, 20, 364), (50, 20, 364), (51, 20, 8), (52, 20, 364), (53, 20, 364), (54, 20, 364), (55, 20, 364), (56, 20, 364), (57, 20, 364), (58, 20, 364), (59, 20, 364), (60, 20, 1200), (61, 20, 1200), (62, 20, 1200)]
def fmR : List (Nat × Int × Nat) := [(35, 0, 36), (35, 4, 37), (35, 5, 38), (35, 8, 39), (35, 9, 40), (35, 10, 41), (35, 12, 42), (35, 13, 43), (35, 15, 44), (35, 16, 45), (35, 17, 46), (35, 18, 47), (35, 19, 48), (35, 20, 49), (35, 21, 50), (35, 23, 51), (35, 24, 52), (35, 25, 53), (35, 26, 54), (35, 27, 55), (35, 28, 56), (35, 30, 57), (35, 31, 58), (35, 32, 59), (35, 37, 60), (35, 38, 61), (35, 39, 62)]
def FX (ts : List (Nat × Nat × Int)) (rs : List (Nat × Int × Nat)) (G : Hp) : Prop := (∀ e ∈ ts, tg G e.1 = e.2.1 ∧ ln G e.1 = e.2.2) ∧ ∀ e ∈ rs, rv G e.1 e.2.1 = some e.2.2
def FC (G : Hp) : Prop := FX fcT fcR G
def FM (G : Hp) : Prop := FX fmT fmR G
theorem ft1 {G : Hp} (h : FC G) : tg G 1 = 9 := (h.1 (1, 9, 0) (by decide)).1
theorem ft2 {G : Hp} (h : FC G) : tg G 2 = 20 := (h.1 (2, 20, 160) (by decide)).1
theorem fl2 {G : Hp} (h : FC G) : ln G 2 = 160 := (h.1 (2, 20, 160) (by decide)).2
theorem ft3 {G : Hp} (h : FC G) : tg G 3 = 6 := (h.1 (3, 6, 0) (by decide)).1
theorem ft4 {G : Hp} (h : FC G) : tg G 4 = 20 := (h.1 (4, 20, 160) (by decide)).1
theorem fl4 {G : Hp} (h : FC G) : ln G 4 = 160 := (h.1 (4, 20, 160) (by decide)).2
theorem ft5 {G : Hp} (h : FC G) : tg G 5 = 20 := (h.1 (5, 20, 160) (by decide)).1
theorem fl5 {G : Hp} (h : FC G) : ln G 5 = 160 := (h.1 (5, 20, 160) (by decide)).2
theorem ft6 {G : Hp} (h : FC G) : tg G 6 = 20 := (h.1 (6, 20, 160) (by decide)).1
theorem fl6 {G : Hp} (h : FC G) : ln G 6 = 160 := (h.1 (6, 20, 160) (by decide)).2
theorem ft7 {G : Hp} (h : FC G) : tg G 7 = 5 := (h.1 (7, 5, 0) (by decide)).1
theorem ft8 {G : Hp} (h : FC G) : tg G 8 = 20 := (h.1 (8, 20, 320) (by decide)).1
theorem fl8 {G : Hp} (h : FC G) : ln G 8 = 320 := (h.1 (8, 20, 320) (by decide)).2
theorem ft9 {G : Hp} (h : FC G) : tg G 9 = 20 := (h.1 (9, 20, 320) (by decide)).1
theorem fl9 {G : Hp} (h : FC G) : ln G 9 = 320 := (h.1 (9, 20, 320) (by decide)).2
theorem ft10 {G : Hp} (h : FC G) : tg G 10 = 20 := (h.1 (10, 20, 5) (by decide)).1
theorem fl10 {G : Hp} (h : FC G) : ln G 10 = 5 := (h.1 (10, 20, 5) (by decide)).2
theorem ft11 {G : Hp} (h : FC G) : tg G 11 = 5 := (h.1 (11, 5, 0) (by decide)).1
theorem ft12 {G : Hp} (h : FC G) : tg G 12 = 20 := (h.1 (12, 20, 320) (by decide)).1
theorem fl12 {G : Hp} (h : FC G) : ln G 12 = 320 := (h.1 (12, 20, 320) (by decide)).2
theorem ft13 {G : Hp} (h : FC G) : tg G 13 = 20 := (h.1 (13, 20, 320) (by decide)).1
theorem fl13 {G : Hp} (h : FC G) : ln G 13 = 320 := (h.1 (13, 20, 320) (by decide)).2
theorem ft14 {G : Hp} (h : FC G) : tg G 14 = 20 := (h.1 (14, 20, 5) (by decide)).1
theorem fl14 {G : Hp} (h : FC G) : ln G 14 = 5 := (h.1 (14, 20, 5) (by decide)).2
theorem ft15 {G : Hp} (h : FC G) : tg G 15 = 7 := (h.1 (15, 7, 0) (by decide)).1
theorem ft16 {G : Hp} (h : FC G) : tg G 16 = 20 := (h.1 (16, 20, 8) (by decide)).1
theorem fl16 {G : Hp} (h : FC G) : ln G 16 = 8 := (h.1 (16, 20, 8) (by decide)).2
theorem ft17 {G : Hp} (h : FC G) : tg G 17 = 8 := (h.1 (17, 8, 0) (by decide)).1
theorem ft18 {G : Hp} (h : FC G) : tg G 18 = 21 := (h.1 (18, 21, 364) (by decide)).1
theorem fl18 {G : Hp} (h : FC G) : ln G 18 = 364 := (h.1 (18, 21, 364) (by decide)).2
theorem ft19 {G : Hp} (h : FC G) : tg G 19 = 2 := (h.1 (19, 2, 0) (by decide)).1
theorem ft20 {G : Hp} (h : FC G) : tg G 20 = 20 := (h.1 (20, 20, 16) (by decide)).1
theorem fl20 {G : Hp} (h : FC G) : ln G 20 = 16 := (h.1 (20, 20, 16) (by decide)).2
theorem ft21 {G : Hp} (h : FC G) : tg G 21 = 20 := (h.1 (21, 20, 16) (by decide)).1
theorem fl21 {G : Hp} (h : FC G) : ln G 21 = 16 := (h.1 (21, 20, 16) (by decide)).2
theorem ft22 {G : Hp} (h : FC G) : tg G 22 = 20 := (h.1 (22, 20, 16) (by decide)).1
theorem fl22 {G : Hp} (h : FC G) : ln G 22 = 16 := (h.1 (22, 20, 16) (by decide)).2
theorem ft23 {G : Hp} (h : FC G) : tg G 23 = 0 := (h.1 (23, 0, 0) (by decide)).1
theorem ft24 {G : Hp} (h : FC G) : tg G 24 = 20 := (h.1 (24, 20, 20) (by decide)).1
theorem fl24 {G : Hp} (h : FC G) : ln G 24 = 20 := (h.1 (24, 20, 20) (by decide)).2
theorem ft25 {G : Hp} (h : FC G) : tg G 25 = 20 := (h.1 (25, 20, 20) (by decide)).1
theorem fl25 {G : Hp} (h : FC G) : ln G 25 = 20 := (h.1 (25, 20, 20) (by decide)).2
theorem ft26 {G : Hp} (h : FC G) : tg G 26 = 20 := (h.1 (26, 20, 20) (by decide)).1
theorem fl26 {G : Hp} (h : FC G) : ln G 26 = 20 := (h.1 (26, 20, 20) (by decide)).2
theorem ft27 {G : Hp} (h : FC G) : tg G 27 = 22 := (h.1 (27, 22, 2) (by decide)).1
theorem fl27 {G : Hp} (h : FC G) : ln G 27 = 2 := (h.1 (27, 22, 2) (by decide)).2
theorem ft28 {G : Hp} (h : FC G) : tg G 28 = 4 := (h.1 (28, 4, 0) (by decide)).1
theorem ft29 {G : Hp} (h : FC G) : tg G 29 = 3 := (h.1 (29, 3, 0) (by decide)).1
theorem ft30 {G : Hp} (h : FC G) : tg G 30 = 20 := (h.1 (30, 20, 960) (by decide)).1
theorem fl30 {G : Hp} (h : FC G) : ln G 30 = 960 := (h.1 (30, 20, 960) (by decide)).2
theorem ft31 {G : Hp} (h : FC G) : tg G 31 = 3 := (h.1 (31, 3, 0) (by decide)).1
theorem ft32 {G : Hp} (h : FC G) : tg G 32 = 20 := (h.1 (32, 20, 960) (by decide)).1
theorem fl32 {G : Hp} (h : FC G) : ln G 32 = 960 := (h.1 (32, 20, 960) (by decide)).2
theorem fr1_0 {G : Hp} (h : FC G) : rv G 1 0 = some 2 := h.2 (1, 0, 2) (by decide)
theorem fr1_3 {G : Hp} (h : FC G) : rv G 1 3 = some 3 := h.2 (1, 3, 3) (by decide)
theorem fr1_6 {G : Hp} (h : FC G) : rv G 1 6 = some 15 := h.2 (1, 6, 15) (by decide)
theorem fr1_7 {G : Hp} (h : FC G) : rv G 1 7 = some 29 := h.2 (1, 7, 29) (by decide)
theorem fr1_8 {G : Hp} (h : FC G) : rv G 1 8 = some 31 := h.2 (1, 8, 31) (by decide)
theorem fr1_9 {G : Hp} (h : FC G) : rv G 1 9 = some 17 := h.2 (1, 9, 17) (by decide)
theorem fr1_10 {G : Hp} (h : FC G) : rv G 1 10 = some 19 := h.2 (1, 10, 19) (by decide)
theorem fr1_11 {G : Hp} (h : FC G) : rv G 1 11 = some 23 := h.2 (1, 11, 23) (by decide)
theorem fr1_12 {G : Hp} (h : FC G) : rv G 1 12 = some 27 := h.2 (1, 12, 27) (by decide)
theorem fr3_0 {G : Hp} (h : FC G) : rv G 3 0 = some 4 := h.2 (3, 0, 4) (by decide)
theorem fr3_1 {G : Hp} (h : FC G) : rv G 3 1 = some 5 := h.2 (3, 1, 5) (by decide)
theorem fr3_2 {G : Hp} (h : FC G) : rv G 3 2 = some 6 := h.2 (3, 2, 6) (by decide)
theorem fr7_0 {G : Hp} (h : FC G) : rv G 7 0 = some 8 := h.2 (7, 0, 8) (by decide)
theorem fr7_1 {G : Hp} (h : FC G) : rv G 7 1 = some 9 := h.2 (7, 1, 9) (by decide)
theorem fr7_2 {G : Hp} (h : FC G) : rv G 7 2 = some 10 := h.2 (7, 2, 10) (by decide)
theorem fr11_0 {G : Hp} (h : FC G) : rv G 11 0 = some 12 := h.2 (11, 0, 12) (by decide)
theorem fr11_1 {G : Hp} (h : FC G) : rv G 11 1 = some 13 := h.2 (11, 1, 13) (by decide)
theorem fr11_2 {G : Hp} (h : FC G) : rv G 11 2 = some 14 := h.2 (11, 2, 14) (by decide)
theorem fr15_0 {G : Hp} (h : FC G) : rv G 15 0 = some 16 := h.2 (15, 0, 16) (by decide)
theorem fr17_0 {G : Hp} (h : FC G) : rv G 17 0 = some 18 := h.2 (17, 0, 18) (by decide)
theorem fr19_0 {G : Hp} (h : FC G) : rv G 19 0 = some 20 := h.2 (19, 0, 20) (by decide)
theorem fr19_1 {G : Hp} (h : FC G) : rv G 19 1 = some 21 := h.2 (19, 1, 21) (by decide)
theorem fr19_2 {G : Hp} (h : FC G) : rv G 19 2 = some 22 := h.2 (19, 2, 22) (by decide)
theorem fr23_0 {G : Hp} (h : FC G) : rv G 23 0 = some 24 := h.2 (23, 0, 24) (by decide)
theorem fr23_1 {G : Hp} (h : FC G) : rv G 23 1 = some 25 := h.2 (23, 1, 25) (by decide)
theorem fr23_2 {G : Hp} (h : FC G) : rv G 23 2 = some 26 := h.2 (23, 2, 26) (by decide)
theorem fr29_0 {G : Hp} (h : FC G) : rv G 29 0 = some 15 := h.2 (29, 0, 15) (by decide)
theorem fr29_1 {G : Hp} (h : FC G) : rv G 29 1 = some 28 := h.2 (29, 1, 28) (by decide)
theorem fr29_2 {G : Hp} (h : FC G) : rv G 29 2 = some 30 := h.2 (29, 2, 30) (by decide)
theorem fr31_0 {G : Hp} (h : FC G) : rv G 31 0 = some 15 := h.2 (31, 0, 15) (by decide)
theorem fr31_1 {G : Hp} (h : FC G) : rv G 31 1 = some 28 := h.2 (31, 1, 28) (by decide)
theorem fr31_2 {G : Hp} (h : FC G) : rv G 31 2 = some 32 := h.2 (31, 2, 32) (by decide)
theorem ft35 {G : Hp} (h : FM G) : tg G 35 = 10 := (h.1 (35, 10, 0) (by decide)).1
theorem ft36 {G : Hp} (h : FM G) : tg G 36 = 20 := (h.1 (36, 20, 190) (by decide)).1
theorem fl36 {G : Hp} (h : FM G) : ln G 36 = 190 := (h.1 (36, 20, 190) (by decide)).2
theorem ft37 {G : Hp} (h : FM G) : tg G 37 = 20 := (h.1 (37, 20, 2) (by decide)).1
theorem fl37 {G : Hp} (h : FM G) : ln G 37 = 2 := (h.1 (37, 20, 2) (by decide)).2
theorem ft38 {G : Hp} (h : FM G) : tg G 38 = 20 := (h.1 (38, 20, 160) (by decide)).1
theorem fl38 {G : Hp} (h : FM G) : ln G 38 = 160 := (h.1 (38, 20, 160) (by decide)).2
theorem ft39 {G : Hp} (h : FM G) : tg G 39 = 20 := (h.1 (39, 20, 20) (by decide)).1
theorem fl39 {G : Hp} (h : FM G) : ln G 39 = 20 := (h.1 (39, 20, 20) (by decide)).2
theorem ft40 {G : Hp} (h : FM G) : tg G 40 = 20 := (h.1 (40, 20, 20) (by decide)).1
theorem fl40 {G : Hp} (h : FM G) : ln G 40 = 20 := (h.1 (40, 20, 20) (by decide)).2
theorem ft41 {G : Hp} (h : FM G) : tg G 41 = 20 := (h.1 (41, 20, 20) (by decide)).1
theorem fl41 {G : Hp} (h : FM G) : ln G 41 = 20 := (h.1 (41, 20, 20) (by decide)).2
theorem ft42 {G : Hp} (h : FM G) : tg G 42 = 20 := (h.1 (42, 20, 160) (by decide)).1
theorem fl42 {G : Hp} (h : FM G) : ln G 42 = 160 := (h.1 (42, 20, 160) (by decide)).2
theorem ft43 {G : Hp} (h : FM G) : tg G 43 = 20 := (h.1 (43, 20, 5) (by decide)).1
theorem fl43 {G : Hp} (h : FM G) : ln G 43 = 5 := (h.1 (43, 20, 5) (by decide)).2
theorem ft44 {G : Hp} (h : FM G) : tg G 44 = 20 := (h.1 (44, 20, 364) (by decide)).1
theorem fl44 {G : Hp} (h : FM G) : ln G 44 = 364 := (h.1 (44, 20, 364) (by decide)).2
theorem ft45 {G : Hp} (h : FM G) : tg G 45 = 20 := (h.1 (45, 20, 364) (by decide)).1
theorem fl45 {G : Hp} (h : FM G) : ln G 45 = 364 := (h.1 (45, 20, 364) (by decide)).2
theorem ft46 {G : Hp} (h : FM G) : tg G 46 = 20 := (h.1 (46, 20, 364) (by decide)).1
theorem fl46 {G : Hp} (h : FM G) : ln G 46 = 364 := (h.1 (46, 20, 364) (by decide)).2
theorem ft47 {G : Hp} (h : FM G) : tg G 47 = 20 := (h.1 (47, 20, 364) (by decide)).1
theorem fl47 {G : Hp} (h : FM G) : ln G 47 = 364 := (h.1 (47, 20, 364) (by decide)).2
theorem ft48 {G : Hp} (h : FM G) : tg G 48 = 20 := (h.1 (48, 20, 364) (by decide)).1
theorem fl48 {G : Hp} (h : FM G) : ln G 48 = 364 := (h.1 (48, 20, 364) (by decide)).2
theorem ft49 {G : Hp} (h : FM G) : tg G 49 = 20 := (h.1 (49, 20, 364) (by decide)).1
theorem fl49 {G : Hp} (h : FM G) : ln G 49 = 364 := (h.1 (49, 20, 364) (by decide)).2
theorem ft50 {G : Hp} (h : FM G) : tg G 50 = 20 := (h.1 (50, 20, 364) (by decide)).1
theorem fl50 {G : Hp} (h : FM G) : ln G 50 = 364 := (h.1 (50, 20, 364) (by decide)).2
theorem ft51 {G : Hp} (h : FM G) : tg G 51 = 20 := (h.1 (51, 20, 8) (by decide)).1
theorem fl51 {G : Hp} (h : FM G) : ln G 51 = 8 := (h.1 (51, 20, 8) (by decide)).2
theorem ft52 {G : Hp} (h : FM G) : tg G 52 = 20 := (h.1 (52, 20, 364) (by decide)).1
theorem fl52 {G : Hp} (h : FM G) : ln G 52 = 364 := (h.1 (52, 20, 364) (by decide)).2
theorem ft53 {G : Hp} (h : FM G) : tg G 53 = 20 := (h.1 (53, 20, 364) (by decide)).1
theorem fl53 {G : Hp} (h : FM G) : ln G 53 = 364 := (h.1 (53, 20, 364) (by decide)).2
theorem ft54 {G : Hp} (h : FM G) : tg G 54 = 20 := (h.1 (54, 20, 364) (by decide)).1
theorem fl54 {G : Hp} (h : FM G) : ln G 54 = 364 := (h.1 (54, 20, 364) (by decide)).2
theorem ft55 {G : Hp} (h : FM G) : tg G 55 = 20 := (h.1 (55, 20, 364) (by decide)).1
theorem fl55 {G : Hp} (h : FM G) : ln G 55 = 364 := (h.1 (55, 20, 364) (by decide)).2
theorem ft56 {G : Hp} (h : FM G) : tg G 56 = 20 := (h.1 (56, 20, 364) (by decide)).1
theorem fl56 {G : Hp} (h : FM G) : ln G 56 = 364 := (h.1 (56, 20, 364) (by decide)).2
theorem ft57 {G : Hp} (h : FM G) : tg G 57 = 20 := (h.1 (57, 20, 364) (by decide)).1
theorem fl57 {G : Hp} (h : FM G) : ln G 57 = 364 := (h.1 (57, 20, 364) (by decide)).2
theorem ft58 {G : Hp} (h : FM G) : tg G 58 = 20 := (h.1 (58, 20, 364) (by decide)).1
theorem fl58 {G : Hp} (h : FM G) : ln G 58 = 364 := (h.1 (58, 20, 364) (by decide)).2
theorem ft59 {G : Hp} (h : FM G) : tg G 59 = 20 := (h.1 (59, 20, 364) (by decide)).1
theorem fl59 {G : Hp} (h : FM G) : ln G 59 = 364 := (h.1 (59, 20, 364) (by decide)).2
theorem ft60 {G : Hp} (h : FM G) : tg G 60 = 20 := (h.1 (60, 20, 1200) (by decide)).1
theorem fl60 {G : Hp} (h : FM G) : ln G 60 = 1200 := (h.1 (60, 20, 1200) (by decide)).2
theorem ft61 {G : Hp} (h : FM G) : tg G 61 = 20 := (h.1 (61, 20, 1200) (by decide)).1
theorem fl61 {G : Hp} (h : FM G) : ln G 61 = 1200 := (h.1 (61, 20, 1200) (by decide)).2
theorem ft62 {G : Hp} (h : FM G) : tg G 62 = 20 := (h.1 (62, 20, 1200) (by decide)).1
theorem fl62 {G : Hp} (h : FM G) : ln G 62 = 1200 := (h.1 (62, 20, 1200) (by decide)).2
theorem fr35_0 {G : Hp} (h : FM G) : rv G 35 0 = some 36 := h.2 (35, 0, 36) (by decide)
theorem fr35_4 {G : Hp} (h : FM G) : rv G 35 4 = some 37 := h.2 (35, 4, 37) (by decide)
theorem fr35_5 {G : Hp} (h : FM G) : rv G 35 5 = some 38 := h.2 (35, 5, 38) (by decide)
theorem fr35_8 {G : Hp} (h : FM G) : rv G 35 8 = some 39 := h.2 (35, 8, 39) (by decide)
theorem fr35_9 {G : Hp} (h : FM G) : rv G 35 9 = some 40 := h.2 (35, 9, 40) (by decide)
theorem fr35_10 {G : Hp} (h : FM G) : rv G 35 10 = some 41 := h.2 (35, 10, 41) (by decide)
theorem fr35_12 {G : Hp} (h : FM G) : rv G 35 12 = some 42 := h.2 (35, 12, 42) (by decide)
theorem fr35_13 {G : Hp} (h : FM G) : rv G 35 13 = some 43 := h.2 (35, 13, 43) (by decide)
theorem fr35_15 {G : Hp} (h : FM G) : rv G 35 15 = some 44 := h.2 (35, 15, 44) (by decide)
theorem fr35_16 {G : Hp} (h : FM G) : rv G 35 16 = some 45 := h.2 (35, 16, 45) (by decide)
theorem fr35_17 {G : Hp} (h : FM G) : rv G 35 17 = some 46 := h.2 (35, 17, 46) (by decide)
theorem fr35_18 {G : Hp} (h : FM G) : rv G 35 18 = some 47 := h.2 (35, 18, 47) (by decide)
theorem fr35_19 {G : Hp} (h : FM G) : rv G 35 19 = some 48 := h.2 (35, 19, 48) (by decide)
theorem fr35_20 {G : Hp} (h : FM G) : rv G 35 20 = some 49 := h.2 (35, 20, 49) (by decide)
theorem fr35_21 {G : Hp} (h : FM G) : rv G 35 21 = some 50 := h.2 (35, 21, 50) (by decide)
theorem fr35_23 {G : Hp} (h : FM G) : rv G 35 23 = some 51 := h.2 (35, 23, 51) (by decide)
theorem fr35_24 {G : Hp} (h : FM G) : rv G 35 24 = some 52 := h.2 (35, 24, 52) (by decide)
theorem fr35_25 {G : Hp} (h : FM G) : rv G 35 25 = some 53 := h.2 (35, 25, 53) (by decide)
theorem fr35_26 {G : Hp} (h : FM G) : rv G 35 26 = some 54 := h.2 (35, 26, 54) (by decide)
theorem fr35_27 {G : Hp} (h : FM G) : rv G 35 27 = some 55 := h.2 (35, 27, 55) (by decide)
theorem fr35_28 {G : Hp} (h : FM G) : rv G 35 28 = some 56 := h.2 (35, 28, 56) (by decide)
theorem fr35_30 {G : Hp} (h : FM G) : rv G 35 30 = some 57 := h.2 (35, 30, 57) (by decide)
theorem fr35_31 {G : Hp} (h : FM G) : rv G 35 31 = some 58 := h.2 (35, 31, 58) (by decide)
theorem fr35_32 {G : Hp} (h : FM G) : rv G 35 32 = some 59 := h.2 (35, 32, 59) (by decide)
theorem fr35_37 {G : Hp} (h : FM G) : rv G 35 37 = some 60 := h.2 (35, 37, 60) (by decide)
theorem fr35_38 {G : Hp} (h : FM G) : rv G 35 38 = some 61 := h.2 (35, 38, 61) (by decide)
theorem fr35_39 {G : Hp} (h : FM G) : rv G 35 39 = some 62 := h.2 (35, 39, 62) (by decide)
theorem FX_si {ts : List (Nat × Nat × Int)} {rs : List (Nat × Int × Nat)} {G : Hp} (h : FX ts rs G) (a : Nat) (k v : Int) : FX ts rs (si G a k v) := h
theorem FX_sr {ts : List (Nat × Nat × Int)} {rs : List (Nat × Int × Nat)} {G : Hp} (h : FX ts rs G) {a : Nat} {k : Int} (r : Option Nat) (hn : ∀ e ∈ rs, ¬ (e.1 = a ∧ e.2.1 = k)) : FX ts rs (sr G a k r) := ⟨h.1, fun e he => by rw [rv_sr, if_neg (hn e he)]; exact h.2 e he⟩
theorem FX_nw {ts : List (Nat × Nat × Int)} {rs : List (Nat × Int × Nat)} {G : Hp} (h : FX ts rs G) (t w : Nat) (n : Int) (h1 : ∀ e ∈ ts, e.1 ≠ sz G + 1) (h2 : ∀ e ∈ rs, e.1 ≠ sz G + 1) : FX ts rs (nw G t n w) :=
  ⟨fun e he => by rw [tg_nw, ln_nw, if_neg (h1 e he), if_neg (h1 e he)]; exact h.1 e he, fun e he => by rw [rv_nw, if_neg (h2 e he)]; exact h.2 e he⟩
theorem FX_cp {ts : List (Nat × Nat × Int)} {rs : List (Nat × Int × Nat)} {G : Hp} (h : FX ts rs G) (a b : Nat) (sp dp n : Int) : FX ts rs (cp G a sp b dp n) := h
/-- two memories that are the same on some cells -/
def Sm (P : Nat → Prop) (G G' : Hp) : Prop := ∀ a, P a → tg G' a = tg G a ∧ ln G' a = ln G a ∧ (∀ k, iv G' a k = iv G a k) ∧ ∀ k, rv G' a k = rv G a k
theorem Sm.rf {P : Nat → Prop} {G : Hp} : Sm P G G := fun _ _ => ⟨rfl, rfl, fun _ => rfl, fun _ => rfl⟩
theorem Sm.trans {P : Nat → Prop} {G G1 G2 : Hp} (h1 : Sm P G G1) (h2 : Sm P G1 G2) : Sm P G G2 := fun a ha => ⟨(h2 a ha).1.trans (h1 a ha).1, (h2 a ha).2.1.trans (h1 a ha).2.1, fun k => ((h2 a ha).2.2.1 k).trans ((h1 a ha).2.2.1 k), fun k => ((h2 a ha).2.2.2 k).trans ((h1 a ha).2.2.2 k)⟩
theorem Sm.mono {P P' : Nat → Prop} {G G' : Hp} (h : Sm P G G') (hp : ∀ a, P' a → P a) : Sm P' G G' := fun a ha => h a (hp a ha)
theorem Sm.si {P : Nat → Prop} {G G' : Hp} (h : Sm P G G') {a : Nat} (k v : Int) (ha : ¬ P a) : Sm P G (si G' a k v) := fun b hb => ⟨(h b hb).1, (h b hb).2.1, fun j => by rw [iv_si, if_neg (by rintro ⟨rfl, -⟩; exact ha hb)]; exact (h b hb).2.2.1 j, (h b hb).2.2.2⟩
theorem Sm.sr {P : Nat → Prop} {G G' : Hp} (h : Sm P G G') {a : Nat} (k : Int) (r : Option Nat) (ha : ¬ P a) : Sm P G (sr G' a k r) := fun b hb => ⟨(h b hb).1, (h b hb).2.1, (h b hb).2.2.1, fun j => by rw [rv_sr, if_neg (by rintro ⟨rfl, -⟩; exact ha hb)]; exact (h b hb).2.2.2 j⟩
theorem Sm.nw {P : Nat → Prop} {G G' : Hp} (h : Sm P G G') (t w : Nat) (n : Int) (ha : ¬ P (sz G' + 1)) : Sm P G (nw G' t n w) := fun b hb => by
  have hn : b ≠ sz G' + 1 := fun q => ha (q ▸ hb)
  refine ⟨?_, ?_, fun j => ?_, fun j => ?_⟩
  · rw [tg_nw, if_neg hn]; exact (h b hb).1
  · rw [ln_nw, if_neg hn]; exact (h b hb).2.1
  · rw [iv_nw, if_neg hn]; exact (h b hb).2.2.1 j
  · rw [rv_nw, if_neg hn]; exact (h b hb).2.2.2 j
theorem Sm.cp {P : Nat → Prop} {G G' : Hp} (h : Sm P G G') (a : Nat) {b : Nat} (sp dp n : Int) (hb : ¬ P b) : Sm P G (cp G' a sp b dp n) := fun c hc => ⟨(h c hc).1, (h c hc).2.1, fun j => by rw [iv_cp, if_neg (by rintro ⟨rfl, -⟩; exact hb hc)]; exact (h c hc).2.2.1 j, (h c hc).2.2.2⟩
theorem FX_Sm {ts : List (Nat × Nat × Int)} {rs : List (Nat × Int × Nat)} {P : Nat → Prop} {G G' : Hp} (h : FX ts rs G) (hs : Sm P G G') (h1 : ∀ e ∈ ts, P e.1) (h2 : ∀ e ∈ rs, P e.1) : FX ts rs G' :=
  ⟨fun e he => by rw [(hs _ (h1 e he)).1, (hs _ (h1 e he)).2.1]; exact h.1 e he, fun e he => by rw [(hs _ (h2 e he)).2.2.2]; exact h.2 e he⟩
/-- the class's cells, the model's cells -/
def isM (a : Nat) : Prop := 35 ≤ a ∧ a ≤ 62
def isC (a : Nat) : Prop := a ≤ 34 ∨ 63 ≤ a
theorem FM_Sm {G G' : Hp} (h : FM G) (hs : Sm isM G G') : FM G' := FX_Sm h hs (by unfold isM; decide) (by unfold isM; decide)
theorem FC_Sm {G G' : Hp} (h : FC G) (hs : Sm isC G G') : FC G' := FX_Sm h hs (by unfold isC; decide) (by unfold isC; decide)
