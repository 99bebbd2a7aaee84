/-! ===== the grower: constructors, over a list of cells that grows; a reference is a place in the list ===== -/
def gNm (g : Nat) : MethodName := ([yX0_init, yX1_init, yX2_init, yX3_init, yX4_init, yX5_init, yX6_init, yX7_init, yX8_init, yX8_fresh, yJ7_fill_53178] : List MethodName).getD g yX0_init
def gCd (g : Nat) : ByteArray := ([cX0_init, cX1_init, cX2_init, cX3_init, cX4_init, cX5_init, cX6_init, cX7_init, cX8_init, cX8_fresh, cJ7_fill_53178] : List ByteArray).getD g cX0_init
def gL (g : Nat) : Nat := ([3, 1, 1, 1, 1, 1, 1, 2, 3, 3, 4] : List Nat).getD g 0
def gO (g : Nat) : Nat := ([0, 1, 2, 3, 4, 5, 6, 7, 8, 8, 10] : List Nat).getD g 0
def gP (g : Nat) : Nat := ([1, 0, 0, 0, 0, 0, 0, 0, 0, 1, 2] : List Nat).getD g 0
def gF (g : Nat) : Nat := ([2, 1, 1, 1, 1, 1, 1, 3, 1, 0, 0] : List Nat).getD g 0
def gLo (g : Nat) : Nat := ([40, 20, 20, 20, 30, 20, 20, 70, 30, 0, 0] : List Nat).getD g 0
def gMc (g : Nat) : Nat := ([6, 2, 1, 3, 4, 1, 0, 300, 100, 0, 0] : List Nat).getD g 0
def gMs (g : Nat) : Nat := ([31, 16, 48, 9, 144, 80, 0, 5000, 50000, 0, 0] : List Nat).getD g 0
def rmG (g : Nat) : Room := { frames := gF g, cells := gMc g, slots := gMs g, locals := gLo g }
abbrev wsG (g : Nat) : List Cond := Cond.code (gNm g) (gCd g) (gL g) none :: lwg
set_option maxRecDepth 100000 in
theorem cdG_0 : Cond.code (gNm 0) (gCd 0) (gL 0) none ∈ lwg := List.mem_filter.mpr ⟨List.mem_of_getElem? (i := 145) rfl, rfl⟩
set_option maxRecDepth 100000 in
theorem cdG_1 : Cond.code (gNm 1) (gCd 1) (gL 1) none ∈ lwg := List.mem_filter.mpr ⟨List.mem_of_getElem? (i := 115) rfl, rfl⟩
set_option maxRecDepth 100000 in
theorem cdG_2 : Cond.code (gNm 2) (gCd 2) (gL 2) none ∈ lwg := List.mem_filter.mpr ⟨List.mem_of_getElem? (i := 100) rfl, rfl⟩
set_option maxRecDepth 100000 in
theorem cdG_3 : Cond.code (gNm 3) (gCd 3) (gL 3) none ∈ lwg := List.mem_filter.mpr ⟨List.mem_of_getElem? (i := 276) rfl, rfl⟩
set_option maxRecDepth 100000 in
theorem cdG_4 : Cond.code (gNm 4) (gCd 4) (gL 4) none ∈ lwg := List.mem_filter.mpr ⟨List.mem_of_getElem? (i := 238) rfl, rfl⟩
set_option maxRecDepth 100000 in
theorem cdG_5 : Cond.code (gNm 5) (gCd 5) (gL 5) none ∈ lwg := List.mem_filter.mpr ⟨List.mem_of_getElem? (i := 81) rfl, rfl⟩
set_option maxRecDepth 100000 in
theorem cdG_6 : Cond.code (gNm 6) (gCd 6) (gL 6) none ∈ lwg := List.mem_filter.mpr ⟨List.mem_of_getElem? (i := 152) rfl, rfl⟩
set_option maxRecDepth 100000 in
theorem cdG_7 : Cond.code (gNm 7) (gCd 7) (gL 7) none ∈ lwg := List.mem_filter.mpr ⟨List.mem_of_getElem? (i := 67) rfl, rfl⟩
set_option maxRecDepth 100000 in
theorem cdG_8 : Cond.code (gNm 8) (gCd 8) (gL 8) none ∈ lwg := List.mem_filter.mpr ⟨List.mem_of_getElem? (i := 807) rfl, rfl⟩
set_option maxRecDepth 100000 in
theorem cdG_9 : Cond.code (gNm 9) (gCd 9) (gL 9) none ∈ lwg := List.mem_filter.mpr ⟨List.mem_of_getElem? (i := 812) rfl, rfl⟩
set_option maxRecDepth 100000 in
theorem cdG_10 : Cond.code (gNm 10) (gCd 10) (gL 10) none ∈ lwg := List.mem_filter.mpr ⟨List.mem_of_getElem? (i := 242) rfl, rfl⟩
theorem cdG : ∀ g, g < 11 → Cond.code (gNm g) (gCd g) (gL g) none ∈ lwg := by
  intro g hg
  rcases (show g = 0 ∨ g = 1 ∨ g = 2 ∨ g = 3 ∨ g = 4 ∨ g = 5 ∨ g = 6 ∨ g = 7 ∨ g = 8 ∨ g = 9 ∨ g = 10 by omega) with rfl | rfl | rfl | rfl | rfl | rfl | rfl | rfl | rfl | rfl | rfl
  · exact cdG_0
  · exact cdG_1
  · exact cdG_2
  · exact cdG_3
  · exact cdG_4
  · exact cdG_5
  · exact cdG_6
  · exact cdG_7
  · exact cdG_8
  · exact cdG_9
  · exact cdG_10
def gIs0 : List (Nat × Instr × Nat) := [(0, .aload_n 0, 1), (1, .invokespecial 3, 3), (4, .aload_n 0, 1), (5, .iconst 4, 1), (6, .anewarray 9, 3), (9, .putfield 11, 3), (12, .aload_n 0, 1), (13, .iconst 3, 1), (14, .newarray .int, 2), (16, .putfield 17, 3), (19, .aload_n 0, 1), (20, .iconst 1, 1), (21, .putfield 21, 3), (24, .aload_n 0, 1), (25, .iconst 0, 1), (26, .putfield 25, 3), (29, .aload_n 0, 1), (30, .iconst 0, 1), (31, .putfield 28, 3), (34, .aload_n 0, 1), (35, .iconst 0, 1), (36, .putfield 31, 3), (39, .aload_n 0, 1), (40, .iconst (-1), 1), (41, .putfield 34, 3), (44, .aload_n 0, 1), (45, .iconst 0, 1), (46, .putfield 37, 3), (49, .aload_n 0, 1), (50, .iconst 0, 1), (51, .putfield 40, 3), (54, .aload_n 0, 1), (55, .iconst 0, 1), (56, .putfield 43, 3), (59, .aload_n 0, 1), (60, .iconst 0, 1), (61, .putfield 46, 3), (64, .aload_n 0, 1), (65, .iconst 0, 1), (66, .putfield 50, 3), (69, .aload_n 0, 1), (70, .iconst 0, 1), (71, .putfield 53, 3), (74, .aload_n 0, 1), (75, .iload_n 1, 1), (76, .putfield 56, 3), (79, .iconst 0, 1), (80, .istore_n 2, 1), (81, .iload_n 2, 1), (82, .iconst 4, 1), (83, .if_icmp .ge 22, 3), (86, .aload_n 0, 1), (87, .getfield 11, 3), (90, .iload_n 2, 1), (91, .new 9, 3), (94, .dup, 1), (95, .invokespecial 59, 3), (98, .aastore, 1), (99, .iinc 2 1, 3), (102, .goto (-21), 3), (105, .return_, 1)]
def gIs1 : List (Nat × Instr × Nat) := [(0, .aload_n 0, 1), (1, .invokespecial 3, 3), (4, .aload_n 0, 1), (5, .bipush 8, 2), (7, .newarray .int, 2), (9, .putfield 9, 3), (12, .aload_n 0, 1), (13, .bipush 8, 2), (15, .newarray .int, 2), (17, .putfield 15, 3), (20, .aload_n 0, 1), (21, .iconst 0, 1), (22, .putfield 18, 3), (25, .aload_n 0, 1), (26, .iconst 0, 1), (27, .putfield 22, 3), (30, .return_, 1)]
def gIs2 : List (Nat × Instr × Nat) := [(0, .aload_n 0, 1), (1, .invokespecial 3, 3), (4, .aload_n 0, 1), (5, .bipush 48, 2), (7, .newarray .int, 2), (9, .putfield 9, 3), (12, .aload_n 0, 1), (13, .iconst 0, 1), (14, .putfield 15, 3), (17, .return_, 1)]
def gIs3 : List (Nat × Instr × Nat) := [(0, .aload_n 0, 1), (1, .invokespecial 1, 3), (4, .aload_n 0, 1), (5, .iconst 3, 1), (6, .newarray .int, 2), (8, .putfield 9, 3), (11, .aload_n 0, 1), (12, .iconst 3, 1), (13, .newarray .int, 2), (15, .putfield 13, 3), (18, .aload_n 0, 1), (19, .iconst 3, 1), (20, .newarray .int, 2), (22, .putfield 16, 3), (25, .aload_n 0, 1), (26, .iconst 0, 1), (27, .putfield 19, 3), (30, .aload_n 0, 1), (31, .iconst 0, 1), (32, .putfield 23, 3), (35, .aload_n 0, 1), (36, .iconst 0, 1), (37, .putfield 27, 3), (40, .aload_n 0, 1), (41, .iconst 0, 1), (42, .putfield 30, 3), (45, .aload_n 0, 1), (46, .iconst 0, 1), (47, .putfield 33, 3), (50, .return_, 1)]
def gIs4 : List (Nat × Instr × Nat) := [(0, .aload_n 0, 1), (1, .invokespecial 3, 3), (4, .aload_n 0, 1), (5, .bipush 48, 2), (7, .newarray .int, 2), (9, .putfield 9, 3), (12, .aload_n 0, 1), (13, .bipush 48, 2), (15, .newarray .int, 2), (17, .putfield 15, 3), (20, .aload_n 0, 1), (21, .bipush 24, 2), (23, .newarray .int, 2), (25, .putfield 18, 3), (28, .aload_n 0, 1), (29, .bipush 24, 2), (31, .newarray .int, 2), (33, .putfield 21, 3), (36, .aload_n 0, 1), (37, .bipush 100, 2), (39, .putfield 24, 3), (42, .aload_n 0, 1), (43, .iconst 0, 1), (44, .putfield 28, 3), (47, .aload_n 0, 1), (48, .iconst 0, 1), (49, .putfield 31, 3), (52, .aload_n 0, 1), (53, .iconst (-1), 1), (54, .putfield 34, 3), (57, .aload_n 0, 1), (58, .getfield 9, 3), (61, .sipush (-9999), 3), (64, .invokestatic 37, 3), (67, .aload_n 0, 1), (68, .getfield 15, 3), (71, .sipush 150, 3), (74, .invokestatic 37, 3), (77, .return_, 1)]
def gIs5 : List (Nat × Instr × Nat) := [(0, .aload_n 0, 1), (1, .invokespecial 3, 3), (4, .aload_n 0, 1), (5, .bipush 80, 2), (7, .newarray .int, 2), (9, .putfield 11, 3), (12, .aload_n 0, 1), (13, .iconst 0, 1), (14, .putfield 15, 3), (17, .aload_n 0, 1), (18, .iconst 0, 1), (19, .putfield 19, 3), (22, .return_, 1)]
def gIs6 : List (Nat × Instr × Nat) := [(0, .aload_n 0, 1), (1, .invokespecial 3, 3), (4, .aload_n 0, 1), (5, .iconst 0, 1), (6, .putfield 9, 3), (9, .aload_n 0, 1), (10, .iconst (-1), 1), (11, .putfield 15, 3), (14, .aload_n 0, 1), (15, .iconst 0, 1), (16, .putfield 18, 3), (19, .aload_n 0, 1), (20, .iconst 0, 1), (21, .putfield 21, 3), (24, .aload_n 0, 1), (25, .iconst 0, 1), (26, .putfield 24, 3), (29, .aload_n 0, 1), (30, .iconst 0, 1), (31, .putfield 27, 3), (34, .return_, 1)]
def gIs7 : List (Nat × Instr × Nat) := [(0, .aload_n 0, 1), (1, .invokespecial 1, 3), (4, .aload_n 0, 1), (5, .bipush 8, 2), (7, .anewarray 9, 3), (10, .putfield 11, 3), (13, .aload_n 0, 1), (14, .bipush 10, 2), (16, .anewarray 15, 3), (19, .putfield 17, 3), (22, .aload_n 0, 1), (23, .bipush 10, 2), (25, .anewarray 21, 3), (28, .putfield 23, 3), (31, .aload_n 0, 1), (32, .new 27, 3), (35, .dup, 1), (36, .invokespecial 29, 3), (39, .putfield 30, 3), (42, .aload_n 0, 1), (43, .new 34, 3), (46, .dup, 1), (47, .invokespecial 36, 3), (50, .putfield 37, 3), (53, .aload_n 0, 1), (54, .new 41, 3), (57, .dup, 1), (58, .invokespecial 43, 3), (61, .putfield 44, 3), (64, .aload_n 0, 1), (65, .getstatic 48, 3), (68, .invokevirtual 52, 3), (71, .checkcast 53, 3), (74, .putfield 57, 3), (77, .aload_n 0, 1), (78, .iconst 5, 1), (79, .newarray .int, 2), (81, .putfield 60, 3), (84, .aload_n 0, 1), (85, .bipush 9, 2), (87, .newarray .int, 2), (89, .putfield 63, 3), (92, .aload_n 0, 1), (93, .new 15, 3), (96, .dup, 1), (97, .iconst (-1), 1), (98, .invokespecial 66, 3), (101, .putfield 69, 3), (104, .aload_n 0, 1), (105, .new 41, 3), (108, .dup, 1), (109, .invokespecial 43, 3), (112, .putfield 73, 3), (115, .aload_n 0, 1), (116, .iconst 2, 1), (117, .putfield 76, 3), (120, .aload_n 0, 1), (121, .iconst 0, 1), (122, .putfield 80, 3), (125, .aload_n 0, 1), (126, .iconst 0, 1), (127, .putfield 83, 3), (130, .aload_n 0, 1), (131, .iconst 0, 1), (132, .putfield 86, 3), (135, .aload_n 0, 1), (136, .iconst 0, 1), (137, .putfield 89, 3), (140, .aload_n 0, 1), (141, .iconst 0, 1), (142, .putfield 92, 3), (145, .iconst 0, 1), (146, .istore_n 1, 1), (147, .iload_n 1, 1), (148, .bipush 8, 2), (150, .if_icmp .ge 22, 3), (153, .aload_n 0, 1), (154, .getfield 11, 3), (157, .iload_n 1, 1), (158, .new 9, 3), (161, .dup, 1), (162, .invokespecial 95, 3), (165, .aastore, 1), (166, .iinc 1 1, 3), (169, .goto (-22), 3), (172, .iconst 0, 1), (173, .istore_n 1, 1), (174, .iload_n 1, 1), (175, .bipush 10, 2), (177, .if_icmp .ge 23, 3), (180, .aload_n 0, 1), (181, .getfield 17, 3), (184, .iload_n 1, 1), (185, .new 15, 3), (188, .dup, 1), (189, .iload_n 1, 1), (190, .invokespecial 66, 3), (193, .aastore, 1), (194, .iinc 1 1, 3), (197, .goto (-23), 3), (200, .iconst 0, 1), (201, .istore_n 1, 1), (202, .iload_n 1, 1), (203, .bipush 10, 2), (205, .if_icmp .ge 22, 3), (208, .aload_n 0, 1), (209, .getfield 23, 3), (212, .iload_n 1, 1), (213, .new 21, 3), (216, .dup, 1), (217, .invokespecial 96, 3), (220, .aastore, 1), (221, .iinc 1 1, 3), (224, .goto (-22), 3), (227, .aload_n 0, 1), (228, .getfield 11, 3), (231, .iconst 0, 1), (232, .aaload, 1), (233, .iconst 4, 1), (234, .putfield 97, 3), (237, .return_, 1)]
def gIs8 : List (Nat × Instr × Nat) := [(0, .aload_n 0, 1), (1, .invokespecial 1, 3), (4, .aload_n 0, 1), (5, .iconst 2, 1), (6, .putfield 7, 3), (9, .aload_n 0, 1), (10, .bipush 8, 2), (12, .newarray .int, 2), (14, .putfield 13, 3), (17, .aload_n 0, 1), (18, .bipush 8, 2), (20, .newarray .int, 2), (22, .putfield 17, 3), (25, .aload_n 0, 1), (26, .bipush 8, 2), (28, .newarray .int, 2), (30, .putfield 20, 3), (33, .aload_n 0, 1), (34, .bipush 8, 2), (36, .newarray .int, 2), (38, .putfield 23, 3), (41, .aload_n 0, 1), (42, .bipush 8, 2), (44, .newarray .int, 2), (46, .putfield 26, 3), (49, .aload_n 0, 1), (50, .bipush 8, 2), (52, .newarray .int, 2), (54, .putfield 29, 3), (57, .aload_n 0, 1), (58, .sipush 384, 3), (61, .newarray .int, 2), (63, .putfield 32, 3), (66, .aload_n 0, 1), (67, .bipush 10, 2), (69, .newarray .int, 2), (71, .putfield 35, 3), (74, .aload_n 0, 1), (75, .bipush 11, 2), (77, .newarray .int, 2), (79, .putfield 38, 3), (82, .aload_n 0, 1), (83, .bipush 11, 2), (85, .newarray .int, 2), (87, .putfield 41, 3), (90, .aload_n 0, 1), (91, .bipush 11, 2), (93, .newarray .int, 2), (95, .putfield 44, 3), (98, .aload_n 0, 1), (99, .bipush 11, 2), (101, .newarray .int, 2), (103, .putfield 47, 3), (106, .aload_n 0, 1), (107, .bipush 11, 2), (109, .newarray .int, 2), (111, .putfield 50, 3), (114, .aload_n 0, 1), (115, .bipush 11, 2), (117, .newarray .int, 2), (119, .putfield 53, 3), (122, .aload_n 0, 1), (123, .bipush 11, 2), (125, .newarray .int, 2), (127, .putfield 56, 3), (130, .aload_n 0, 1), (131, .bipush 11, 2), (133, .newarray .int, 2), (135, .putfield 59, 3), (138, .aload_n 0, 1), (139, .bipush 11, 2), (141, .newarray .int, 2), (143, .putfield 62, 3), (146, .aload_n 0, 1), (147, .bipush 11, 2), (149, .newarray .int, 2), (151, .putfield 65, 3), (154, .aload_n 0, 1), (155, .bipush 11, 2), (157, .newarray .boolean, 2), (159, .putfield 68, 3), (162, .aload_n 0, 1), (163, .bipush 11, 2), (165, .newarray .boolean, 2), (167, .putfield 72, 3), (170, .aload_n 0, 1), (171, .bipush 33, 2), (173, .newarray .int, 2), (175, .putfield 75, 3), (178, .aload_n 0, 1), (179, .bipush 44, 2), (181, .newarray .int, 2), (183, .putfield 78, 3), (186, .aload_n 0, 1), (187, .bipush 44, 2), (189, .newarray .int, 2), (191, .putfield 81, 3), (194, .aload_n 0, 1), (195, .bipush 44, 2), (197, .newarray .int, 2), (199, .putfield 84, 3), (202, .aload_n 0, 1), (203, .bipush 44, 2), (205, .newarray .int, 2), (207, .putfield 87, 3), (210, .aload_n 0, 1), (211, .bipush 44, 2), (213, .newarray .int, 2), (215, .putfield 90, 3), (218, .aload_n 0, 1), (219, .bipush 44, 2), (221, .newarray .int, 2), (223, .putfield 93, 3), (226, .aload_n 0, 1), (227, .sipush 256, 3), (230, .newarray .int, 2), (232, .putfield 96, 3), (235, .aload_n 0, 1), (236, .sipush 256, 3), (239, .newarray .int, 2), (241, .putfield 99, 3), (244, .aload_n 0, 1), (245, .bipush 10, 2), (247, .newarray .int, 2), (249, .putfield 102, 3), (252, .aload_n 0, 1), (253, .bipush 10, 2), (255, .newarray .int, 2), (257, .putfield 105, 3), (260, .aload_n 0, 1), (261, .bipush 10, 2), (263, .newarray .int, 2), (265, .putfield 108, 3), (268, .aload_n 0, 1), (269, .bipush 10, 2), (271, .newarray .int, 2), (273, .putfield 111, 3), (276, .aload_n 0, 1), (277, .bipush 10, 2), (279, .newarray .int, 2), (281, .putfield 114, 3), (284, .aload_n 0, 1), (285, .bipush 30, 2), (287, .newarray .int, 2), (289, .putfield 117, 3), (292, .aload_n 0, 1), (293, .bipush 30, 2), (295, .newarray .int, 2), (297, .putfield 120, 3), (300, .aload_n 0, 1), (301, .bipush 30, 2), (303, .newarray .int, 2), (305, .putfield 123, 3), (308, .aload_n 0, 1), (309, .bipush 80, 2), (311, .newarray .int, 2), (313, .putfield 126, 3), (316, .aload_n 0, 1), (317, .bipush 48, 2), (319, .newarray .int, 2), (321, .putfield 129, 3), (324, .aload_n 0, 1), (325, .bipush 48, 2), (327, .newarray .int, 2), (329, .putfield 132, 3), (332, .aload_n 0, 1), (333, .bipush 9, 2), (335, .newarray .int, 2), (337, .putfield 135, 3), (340, .aload_n 0, 1), (341, .bipush 8, 2), (343, .newarray .int, 2), (345, .putfield 138, 3), (348, .iconst 0, 1), (349, .istore_n 1, 1), (350, .iload_n 1, 1), (351, .bipush 8, 2), (353, .if_icmp .ge 14, 3), (356, .aload_n 0, 1), (357, .iload_n 1, 1), (358, .invokevirtual 141, 3), (361, .iinc 1 1, 3), (364, .goto (-14), 3), (367, .aload_n 0, 1), (368, .getfield 13, 3), (371, .iconst 0, 1), (372, .iconst 4, 1), (373, .iastore, 1), (374, .bipush 10, 2), (376, .newarray .int, 2), (378, .dup, 1), (379, .iconst 0, 1), (380, .iconst 1, 1), (381, .iastore, 1), (382, .dup, 1), (383, .iconst 1, 1), (384, .iconst 2, 1), (385, .iastore, 1), (386, .dup, 1), (387, .iconst 2, 1), (388, .iconst 3, 1), (389, .iastore, 1), (390, .dup, 1), (391, .iconst 3, 1), (392, .iconst 5, 1), (393, .iastore, 1), (394, .dup, 1), (395, .iconst 4, 1), (396, .bipush 8, 2), (398, .iastore, 1), (399, .dup, 1), (400, .iconst 5, 1), (401, .bipush 12, 2), (403, .iastore, 1), (404, .dup, 1), (405, .bipush 6, 2), (407, .bipush 18, 2), (409, .iastore, 1), (410, .dup, 1), (411, .bipush 7, 2), (413, .bipush 25, 2), (415, .iastore, 1), (416, .dup, 1), (417, .bipush 8, 2), (419, .bipush 35, 2), (421, .iastore, 1), (422, .dup, 1), (423, .bipush 9, 2), (425, .bipush 50, 2), (427, .iastore, 1), (428, .astore_n 1, 1), (429, .iconst 0, 1), (430, .istore_n 2, 1), (431, .iload_n 2, 1), (432, .bipush 10, 2), (434, .if_icmp .ge 18, 3), (437, .aload_n 0, 1), (438, .getfield 35, 3), (441, .iload_n 2, 1), (442, .aload_n 1, 1), (443, .iload_n 2, 1), (444, .iaload, 1), (445, .iastore, 1), (446, .iinc 2 1, 3), (449, .goto (-18), 3), (452, .return_, 1)]
def gIs9 : List (Nat × Instr × Nat) := [(0, .aload_n 0, 1), (1, .getfield 20, 3), (4, .iload_n 1, 1), (5, .bipush 100, 2), (7, .iastore, 1), (8, .iconst 0, 1), (9, .istore_n 2, 1), (10, .iload_n 2, 1), (11, .bipush 48, 2), (13, .if_icmp .ge 23, 3), (16, .aload_n 0, 1), (17, .getfield 32, 3), (20, .bipush 48, 2), (22, .iload_n 1, 1), (23, .imul, 1), (24, .iload_n 2, 1), (25, .iadd, 1), (26, .sipush (-9999), 3), (29, .iastore, 1), (30, .iinc 2 1, 3), (33, .goto (-23), 3), (36, .return_, 1)]
def gIs10 : List (Nat × Instr × Nat) := [(0, .iconst 0, 1), (1, .istore_n 2, 1), (2, .aload_n 0, 1), (3, .arraylength, 1), (4, .istore_n 3, 1), (5, .iload_n 2, 1), (6, .iload_n 3, 1), (7, .if_icmp .ge 13, 3), (10, .aload_n 0, 1), (11, .iload_n 2, 1), (12, .iload_n 1, 1), (13, .iastore, 1), (14, .iinc 2 1, 3), (17, .goto (-12), 3), (20, .return_, 1)]
def gIs (g : Nat) : List (Nat × Instr × Nat) := ([gIs0, gIs1, gIs2, gIs3, gIs4, gIs5, gIs6, gIs7, gIs8, gIs9, gIs10] : List (List (Nat × Instr × Nat))).getD g []
def AllD (c : ByteArray) : List (Nat × Instr × Nat) → Prop
  | [] => True
  | e :: l => decode c e.1 = .ok e.2 ∧ AllD c l
def look : List (Nat × Instr × Nat) → Nat → Option (Instr × Nat)
  | [], _ => none
  | e :: l, pc => if e.1 = pc then some e.2 else look l pc
theorem look_ok {c : ByteArray} : ∀ {l : List (Nat × Instr × Nat)} {pc : Nat} {q : Instr × Nat}, AllD c l → look l pc = some q → decode c pc = .ok q
  | [], _, _, _, h => by cases h
  | e :: l, pc, q, ⟨h1, h2⟩, h => by
    unfold look at h
    split at h
    · rename_i hc
      cases h
      rw [← hc]
      exact h1
    · exact look_ok h2 h
set_option maxRecDepth 100000 in
theorem gI_0 : AllD (gCd 0) gIs0 := ⟨dX0_init_0, dX0_init_1, dX0_init_4, dX0_init_5, dX0_init_6, dX0_init_9, dX0_init_12, dX0_init_13, dX0_init_14, dX0_init_16, dX0_init_19, dX0_init_20, dX0_init_21, dX0_init_24, dX0_init_25, dX0_init_26, dX0_init_29, dX0_init_30, dX0_init_31, dX0_init_34, dX0_init_35, dX0_init_36, dX0_init_39, dX0_init_40, dX0_init_41, dX0_init_44, dX0_init_45, dX0_init_46, dX0_init_49, dX0_init_50, dX0_init_51, dX0_init_54, dX0_init_55, dX0_init_56, dX0_init_59, dX0_init_60, dX0_init_61, dX0_init_64, dX0_init_65, dX0_init_66, dX0_init_69, dX0_init_70, dX0_init_71, dX0_init_74, dX0_init_75, dX0_init_76, dX0_init_79, dX0_init_80, dX0_init_81, dX0_init_82, dX0_init_83, dX0_init_86, dX0_init_87, dX0_init_90, dX0_init_91, dX0_init_94, dX0_init_95, dX0_init_98, dX0_init_99, dX0_init_102, dX0_init_105, trivial⟩
set_option maxRecDepth 100000 in
theorem gI_1 : AllD (gCd 1) gIs1 := ⟨dX1_init_0, dX1_init_1, dX1_init_4, dX1_init_5, dX1_init_7, dX1_init_9, dX1_init_12, dX1_init_13, dX1_init_15, dX1_init_17, dX1_init_20, dX1_init_21, dX1_init_22, dX1_init_25, dX1_init_26, dX1_init_27, dX1_init_30, trivial⟩
set_option maxRecDepth 100000 in
theorem gI_2 : AllD (gCd 2) gIs2 := ⟨dX2_init_0, dX2_init_1, dX2_init_4, dX2_init_5, dX2_init_7, dX2_init_9, dX2_init_12, dX2_init_13, dX2_init_14, dX2_init_17, trivial⟩
set_option maxRecDepth 100000 in
theorem gI_3 : AllD (gCd 3) gIs3 := ⟨dX3_init_0, dX3_init_1, dX3_init_4, dX3_init_5, dX3_init_6, dX3_init_8, dX3_init_11, dX3_init_12, dX3_init_13, dX3_init_15, dX3_init_18, dX3_init_19, dX3_init_20, dX3_init_22, dX3_init_25, dX3_init_26, dX3_init_27, dX3_init_30, dX3_init_31, dX3_init_32, dX3_init_35, dX3_init_36, dX3_init_37, dX3_init_40, dX3_init_41, dX3_init_42, dX3_init_45, dX3_init_46, dX3_init_47, dX3_init_50, trivial⟩
set_option maxRecDepth 100000 in
theorem gI_4 : AllD (gCd 4) gIs4 := ⟨dX4_init_0, dX4_init_1, dX4_init_4, dX4_init_5, dX4_init_7, dX4_init_9, dX4_init_12, dX4_init_13, dX4_init_15, dX4_init_17, dX4_init_20, dX4_init_21, dX4_init_23, dX4_init_25, dX4_init_28, dX4_init_29, dX4_init_31, dX4_init_33, dX4_init_36, dX4_init_37, dX4_init_39, dX4_init_42, dX4_init_43, dX4_init_44, dX4_init_47, dX4_init_48, dX4_init_49, dX4_init_52, dX4_init_53, dX4_init_54, dX4_init_57, dX4_init_58, dX4_init_61, dX4_init_64, dX4_init_67, dX4_init_68, dX4_init_71, dX4_init_74, dX4_init_77, trivial⟩
set_option maxRecDepth 100000 in
theorem gI_5 : AllD (gCd 5) gIs5 := ⟨dX5_init_0, dX5_init_1, dX5_init_4, dX5_init_5, dX5_init_7, dX5_init_9, dX5_init_12, dX5_init_13, dX5_init_14, dX5_init_17, dX5_init_18, dX5_init_19, dX5_init_22, trivial⟩
set_option maxRecDepth 100000 in
theorem gI_6 : AllD (gCd 6) gIs6 := ⟨dX6_init_0, dX6_init_1, dX6_init_4, dX6_init_5, dX6_init_6, dX6_init_9, dX6_init_10, dX6_init_11, dX6_init_14, dX6_init_15, dX6_init_16, dX6_init_19, dX6_init_20, dX6_init_21, dX6_init_24, dX6_init_25, dX6_init_26, dX6_init_29, dX6_init_30, dX6_init_31, dX6_init_34, trivial⟩
set_option maxRecDepth 100000 in
theorem gI_7 : AllD (gCd 7) gIs7 := ⟨dX7_init_0, dX7_init_1, dX7_init_4, dX7_init_5, dX7_init_7, dX7_init_10, dX7_init_13, dX7_init_14, dX7_init_16, dX7_init_19, dX7_init_22, dX7_init_23, dX7_init_25, dX7_init_28, dX7_init_31, dX7_init_32, dX7_init_35, dX7_init_36, dX7_init_39, dX7_init_42, dX7_init_43, dX7_init_46, dX7_init_47, dX7_init_50, dX7_init_53, dX7_init_54, dX7_init_57, dX7_init_58, dX7_init_61, dX7_init_64, dX7_init_65, dX7_init_68, dX7_init_71, dX7_init_74, dX7_init_77, dX7_init_78, dX7_init_79, dX7_init_81, dX7_init_84, dX7_init_85, dX7_init_87, dX7_init_89, dX7_init_92, dX7_init_93, dX7_init_96, dX7_init_97, dX7_init_98, dX7_init_101, dX7_init_104, dX7_init_105, dX7_init_108, dX7_init_109, dX7_init_112, dX7_init_115, dX7_init_116, dX7_init_117, dX7_init_120, dX7_init_121, dX7_init_122, dX7_init_125, dX7_init_126, dX7_init_127, dX7_init_130, dX7_init_131, dX7_init_132, dX7_init_135, dX7_init_136, dX7_init_137, dX7_init_140, dX7_init_141, dX7_init_142, dX7_init_145, dX7_init_146, dX7_init_147, dX7_init_148, dX7_init_150, dX7_init_153, dX7_init_154, dX7_init_157, dX7_init_158, dX7_init_161, dX7_init_162, dX7_init_165, dX7_init_166, dX7_init_169, dX7_init_172, dX7_init_173, dX7_init_174, dX7_init_175, dX7_init_177, dX7_init_180, dX7_init_181, dX7_init_184, dX7_init_185, dX7_init_188, dX7_init_189, dX7_init_190, dX7_init_193, dX7_init_194, dX7_init_197, dX7_init_200, dX7_init_201, dX7_init_202, dX7_init_203, dX7_init_205, dX7_init_208, dX7_init_209, dX7_init_212, dX7_init_213, dX7_init_216, dX7_init_217, dX7_init_220, dX7_init_221, dX7_init_224, dX7_init_227, dX7_init_228, dX7_init_231, dX7_init_232, dX7_init_233, dX7_init_234, dX7_init_237, trivial⟩
set_option maxRecDepth 100000 in
theorem gI_8 : AllD (gCd 8) gIs8 := ⟨dX8_init_0, dX8_init_1, dX8_init_4, dX8_init_5, dX8_init_6, dX8_init_9, dX8_init_10, dX8_init_12, dX8_init_14, dX8_init_17, dX8_init_18, dX8_init_20, dX8_init_22, dX8_init_25, dX8_init_26, dX8_init_28, dX8_init_30, dX8_init_33, dX8_init_34, dX8_init_36, dX8_init_38, dX8_init_41, dX8_init_42, dX8_init_44, dX8_init_46, dX8_init_49, dX8_init_50, dX8_init_52, dX8_init_54, dX8_init_57, dX8_init_58, dX8_init_61, dX8_init_63, dX8_init_66, dX8_init_67, dX8_init_69, dX8_init_71, dX8_init_74, dX8_init_75, dX8_init_77, dX8_init_79, dX8_init_82, dX8_init_83, dX8_init_85, dX8_init_87, dX8_init_90, dX8_init_91, dX8_init_93, dX8_init_95, dX8_init_98, dX8_init_99, dX8_init_101, dX8_init_103, dX8_init_106, dX8_init_107, dX8_init_109, dX8_init_111, dX8_init_114, dX8_init_115, dX8_init_117, dX8_init_119, dX8_init_122, dX8_init_123, dX8_init_125, dX8_init_127, dX8_init_130, dX8_init_131, dX8_init_133, dX8_init_135, dX8_init_138, dX8_init_139, dX8_init_141, dX8_init_143, dX8_init_146, dX8_init_147, dX8_init_149, dX8_init_151, dX8_init_154, dX8_init_155, dX8_init_157, dX8_init_159, dX8_init_162, dX8_init_163, dX8_init_165, dX8_init_167, dX8_init_170, dX8_init_171, dX8_init_173, dX8_init_175, dX8_init_178, dX8_init_179, dX8_init_181, dX8_init_183, dX8_init_186, dX8_init_187, dX8_init_189, dX8_init_191, dX8_init_194, dX8_init_195, dX8_init_197, dX8_init_199, dX8_init_202, dX8_init_203, dX8_init_205, dX8_init_207, dX8_init_210, dX8_init_211, dX8_init_213, dX8_init_215, dX8_init_218, dX8_init_219, dX8_init_221, dX8_init_223, dX8_init_226, dX8_init_227, dX8_init_230, dX8_init_232, dX8_init_235, dX8_init_236, dX8_init_239, dX8_init_241, dX8_init_244, dX8_init_245, dX8_init_247, dX8_init_249, dX8_init_252, dX8_init_253, dX8_init_255, dX8_init_257, dX8_init_260, dX8_init_261, dX8_init_263, dX8_init_265, dX8_init_268, dX8_init_269, dX8_init_271, dX8_init_273, dX8_init_276, dX8_init_277, dX8_init_279, dX8_init_281, dX8_init_284, dX8_init_285, dX8_init_287, dX8_init_289, dX8_init_292, dX8_init_293, dX8_init_295, dX8_init_297, dX8_init_300, dX8_init_301, dX8_init_303, dX8_init_305, dX8_init_308, dX8_init_309, dX8_init_311, dX8_init_313, dX8_init_316, dX8_init_317, dX8_init_319, dX8_init_321, dX8_init_324, dX8_init_325, dX8_init_327, dX8_init_329, dX8_init_332, dX8_init_333, dX8_init_335, dX8_init_337, dX8_init_340, dX8_init_341, dX8_init_343, dX8_init_345, dX8_init_348, dX8_init_349, dX8_init_350, dX8_init_351, dX8_init_353, dX8_init_356, dX8_init_357, dX8_init_358, dX8_init_361, dX8_init_364, dX8_init_367, dX8_init_368, dX8_init_371, dX8_init_372, dX8_init_373, dX8_init_374, dX8_init_376, dX8_init_378, dX8_init_379, dX8_init_380, dX8_init_381, dX8_init_382, dX8_init_383, dX8_init_384, dX8_init_385, dX8_init_386, dX8_init_387, dX8_init_388, dX8_init_389, dX8_init_390, dX8_init_391, dX8_init_392, dX8_init_393, dX8_init_394, dX8_init_395, dX8_init_396, dX8_init_398, dX8_init_399, dX8_init_400, dX8_init_401, dX8_init_403, dX8_init_404, dX8_init_405, dX8_init_407, dX8_init_409, dX8_init_410, dX8_init_411, dX8_init_413, dX8_init_415, dX8_init_416, dX8_init_417, dX8_init_419, dX8_init_421, dX8_init_422, dX8_init_423, dX8_init_425, dX8_init_427, dX8_init_428, dX8_init_429, dX8_init_430, dX8_init_431, dX8_init_432, dX8_init_434, dX8_init_437, dX8_init_438, dX8_init_441, dX8_init_442, dX8_init_443, dX8_init_444, dX8_init_445, dX8_init_446, dX8_init_449, dX8_init_452, trivial⟩
set_option maxRecDepth 100000 in
theorem gI_9 : AllD (gCd 9) gIs9 := ⟨dX8_fresh_0, dX8_fresh_1, dX8_fresh_4, dX8_fresh_5, dX8_fresh_7, dX8_fresh_8, dX8_fresh_9, dX8_fresh_10, dX8_fresh_11, dX8_fresh_13, dX8_fresh_16, dX8_fresh_17, dX8_fresh_20, dX8_fresh_22, dX8_fresh_23, dX8_fresh_24, dX8_fresh_25, dX8_fresh_26, dX8_fresh_29, dX8_fresh_30, dX8_fresh_33, dX8_fresh_36, trivial⟩
set_option maxRecDepth 100000 in
theorem gI_10 : AllD (gCd 10) gIs10 := ⟨dJ7_fill_53178_0, dJ7_fill_53178_1, dJ7_fill_53178_2, dJ7_fill_53178_3, dJ7_fill_53178_4, dJ7_fill_53178_5, dJ7_fill_53178_6, dJ7_fill_53178_7, dJ7_fill_53178_10, dJ7_fill_53178_11, dJ7_fill_53178_12, dJ7_fill_53178_13, dJ7_fill_53178_14, dJ7_fill_53178_17, dJ7_fill_53178_20, trivial⟩
theorem gI_ok : ∀ g, g < 11 → AllD (gCd g) (gIs g) := by
  intro g hg
  rcases (show g = 0 ∨ g = 1 ∨ g = 2 ∨ g = 3 ∨ g = 4 ∨ g = 5 ∨ g = 6 ∨ g = 7 ∨ g = 8 ∨ g = 9 ∨ g = 10 by omega) with rfl | rfl | rfl | rfl | rfl | rfl | rfl | rfl | rfl | rfl | rfl
  · exact gI_0
  · exact gI_1
  · exact gI_2
  · exact gI_3
  · exact gI_4
  · exact gI_5
  · exact gI_6
  · exact gI_7
  · exact gI_8
  · exact gI_9
  · exact gI_10
theorem gN_ok : ∀ g, g < 11 → (gNm g).cls = RN (gO g) ∧ plainFor (gNm g) = true ∧ ((gNm g).cls ≠ "java/lang/invoke/MethodHandle" ∧ (gNm g).cls ≠ "java/lang/invoke/VarHandle" ∧ (parseMethodDescriptor (gNm g).desc).map (fun d => d.parameters.length) = some (gP g)) ∧ (g < 9 → (gNm g).name = "<init>") ∧ Cond.initialized (gNm g).cls ∈ lwg := by decide +kernel
theorem wsG_good {g : Nat} (hg : g < 11) : GoodIn lwg (wsG g) := good_cons (cdG g hg)
/-- a cell: an object with its fields, an array of ints, an array of references -/
abbrev GE : Type := (Nat × List Value) ⊕ ((Nat × List Int32) ⊕ (Nat × List (Option Nat)))
def bV (n : Nat) : Value → Bool
  | .ref k => decide (k < n)
  | _ => true
def bG (n : Nat) : GE → Bool
  | .inl x => x.2.all (bV n)
  | .inr (.inl _) => true
  | .inr (.inr x) => x.2.all (fun r => match r with | none => true | some k => decide (k < n))
def eG (cA : Nat → ClassId) (ad : Nat → Nat) : GE → va_E
  | .inl x => .inr (x.1, x.2.map (cv ad))
  | .inr (.inl x) => .inl (cA x.1, x.2.length, .inl (fun j => x.2.getD j 0))
  | .inr (.inr x) => .inl (cA x.1, x.2.length, .inr (.inr (.inr (.inr (fun j => (x.2.getD j none).map ad)))))
def gwd (cA : Nat → ClassId) (ad : Nat → Nat) (G : List GE) : va_W := G.mapIdx (fun i x => (ad i, eG cA ad x))
section GW
variable {cA : Nat → ClassId} {ad ad' : Nat → Nat} {G : List GE} {n : Nat}
theorem cv_up (h : ∀ k, k < n → ad' k = ad k) {v : Value} (hv : bV n v = true) : cv ad' v = cv ad v := by
  cases v with
  | ref k =>
    have hk : k < n := by simpa [bV] using hv
    show Value.ref (ad' k) = Value.ref (ad k)
    rw [h k hk]
  | _ => rfl
theorem eG_up (h : ∀ k, k < n → ad' k = ad k) {x : GE} (hx : bG n x = true) : eG cA ad' x = eG cA ad x := by
  rcases x with ⟨ci, fs⟩ | ⟨k, xs⟩ | ⟨k, rs⟩
  · have : fs.map (cv ad') = fs.map (cv ad) := by
      apply List.map_congr_left
      intro v hv
      exact cv_up h (List.all_eq_true.mp hx v hv)
    show Sum.inr (ci, fs.map (cv ad')) = Sum.inr (ci, fs.map (cv ad))
    rw [this]
  · rfl
  · have : (fun j => (rs.getD j none).map ad') = (fun j => (rs.getD j none).map ad) := by
      funext j
      rw [List.getD_eq_getElem?_getD]
      cases hj : rs[j]? with
      | none => rfl
      | some r =>
        cases r with
        | none => rfl
        | some k =>
          have hm := List.all_eq_true.mp hx (some k) (List.mem_of_getElem? hj)
          have hk : k < n := by simpa using hm
          simp [h k hk]
    show Sum.inl (cA k, rs.length, Sum.inr (Sum.inr (Sum.inr (Sum.inr (fun j => (rs.getD j none).map ad'))))) = Sum.inl (cA k, rs.length, Sum.inr (Sum.inr (Sum.inr (Sum.inr (fun j => (rs.getD j none).map ad)))))
    rw [this]
theorem gw_get {i : Nat} {x : GE} (h : G[i]? = some x) : (gwd cA ad G)[i]? = some (ad i, eG cA ad x) := by
  simp [gwd, List.getElem?_mapIdx, h]
theorem gw_set {i : Nat} {x y : GE} (h : G[i]? = some x) : (gwd cA ad G).set i (ad i, eG cA ad y) = gwd cA ad (G.set i y) := by
  have hl : i < G.length := (List.getElem?_eq_some_iff.mp h).1
  apply List.ext_getElem?
  intro j
  by_cases hj : j = i
  · subst hj
    rw [List.getElem?_set_self (by simpa [gwd] using hl)]
    unfold gwd
    rw [List.getElem?_mapIdx, List.getElem?_set_self hl]
    rfl
  · rw [List.getElem?_set_ne (Ne.symm hj)]
    unfold gwd
    rw [List.getElem?_mapIdx, List.getElem?_mapIdx, List.getElem?_set_ne (Ne.symm hj)]
theorem gw_push {q : Nat} {x : GE} (hG : G.all (bG G.length) = true) (hx : bG G.length x = true) : gwd cA ad G ++ [(q, eG cA ad x)] = gwd cA (va_up ad G.length q) (G ++ [x]) := by
  have hup : ∀ k, k < G.length → va_up ad G.length q k = ad k := fun k hk => va_up_ne ad q (by omega)
  apply List.ext_getElem?
  intro j
  have hlen : (gwd cA ad G).length = G.length := by simp [gwd]
  by_cases hj : j < G.length
  · rw [List.getElem?_append_left (by rw [hlen]; exact hj)]
    simp only [gwd, List.getElem?_mapIdx]
    rw [List.getElem?_append_left hj]
    cases hg : G[j]? with
    | none => rfl
    | some y => simp only [Option.map_some, hup j hj, eG_up hup (List.all_eq_true.mp hG y (List.mem_of_getElem? hg))]
  · rw [List.getElem?_append_right (by rw [hlen]; omega), hlen]
    simp only [gwd, List.getElem?_mapIdx]
    rw [List.getElem?_append_right (by omega)]
    by_cases hj2 : j = G.length
    · subst hj2
      simp [va_up_self, eG_up hup hx]
    · have : ∃ d, j - G.length = d + 1 := ⟨j - G.length - 1, by omega⟩
      obtain ⟨d, hd⟩ := this
      rw [hd]
      simp
theorem LR_up {nL : Nat} {lsA : Array Slot} {ls : List Value} (h : ∀ k, k < n → ad' k = ad k) (hb : ls.all (bV n) = true) (hL : LR nL ad lsA ls) : LR nL ad' lsA ls := by
  refine ⟨hL.1, hL.2.1, hL.2.2.1, fun q hq => ?_⟩
  obtain ⟨j, w⟩ := q
  obtain ⟨v, hv, hir, rfl⟩ := lz_mem.mp hq
  rw [cv_up h (List.all_eq_true.mp hb v (List.mem_of_getElem? hv))]
  exact hL.2.2.2 (j, cv ad v) (lz_mem.mpr ⟨v, hv, hir, rfl⟩)
theorem st_up {st : List Value} (h : ∀ k, k < n → ad' k = ad k) (hb : st.all (bV n) = true) : st.map (cv ad') = st.map (cv ad) :=
  List.map_congr_left (fun v hv => cv_up h (List.all_eq_true.mp hb v hv))
end GW
def AS (S0 : Nat) : Nat → Prop := fun q => S0 ≤ q
/-- private constructors: the caller's class, the pool's entry, the constructor -/
def NLk : List (Nat × Nat × Nat) := [(7, 29, 5), (7, 36, 2), (7, 43, 1), (7, 96, 3), (0, 59, 6)]
def fLs : List Int32 := [1, 2, 3, 5, 8, 12, 18, 25, 35, 50]
/-- the words and the table that constructors want besides lwg -/
def XW (cA : Nat → ClassId) (S0 t : Nat) (s : State) (H : Heap) : Prop :=
  (∀ e ∈ NLk, va_Nw (.methodLinkNest (RN e.1) e.2.1 (gNm e.2.2) "ColdLine") s) ∧ va_Nw (.castable "[I" "java/lang/Cloneable") s ∧ (∀ ci ∈ ([0, 3, 4, 6] : List Nat), va_AO (RN ci) s) ∧
  va_Z "ColdLine" "FIRST_LOSSES" "[I" (.ref t) (AS S0) s H ∧ ∃ cell : Cell, H[t]? = some cell ∧ (∀ k, cell.vm ≠ .statics k) ∧ cell.vm ≠ .unknown ∧ cell.cls = cA 9 ∧ cell.slots = (arrV (cA 9) 10 (fun j => .int (fLs.getD j 0))).slots ∧ t < S0
theorem XW.warm {cA : Nat → ClassId} {S0 t : Nat} {s U : State} {H : Heap} (hWm : s.WarmedH U.vm) (h : XW cA S0 t s H) : XW cA S0 t U H :=
  ⟨fun e he => (h.1 e he).warmM hWm, h.2.1.warmC hWm, fun ci hc => (h.2.2.1 ci hc).moved hWm.alike, h.2.2.2.1.moved hWm.alike, h.2.2.2.2⟩
theorem XW.same {cA : Nat → ClassId} {S0 t : Nat} {s U : State} {H : Heap} (hv : U.vm = s.vm) (h : XW cA S0 t s H) : XW cA S0 t U H :=
  ⟨fun e he => va_Nw.same rfl hv.symm (h.1 e he), va_Nw.same rfl hv.symm h.2.1, fun ci hc => (h.2.2.1 ci hc).moved (by rw [hv]; exact Vm.Alike.refl _), h.2.2.2.1.moved (by rw [hv]; exact Vm.Alike.refl _), h.2.2.2.2⟩
theorem XW.kept {cA : Nat → ClassId} {S0 t : Nat} {s : State} {H H1 : Heap} (h : XW cA S0 t s H) (hq : ∀ a : Nat, a < H.size → ¬ AS S0 a → H1[a]? = H[a]?) : XW cA S0 t s H1 := by
  obtain ⟨h1, h2, h3, h4, cell, h5, h6⟩ := h
  refine ⟨h1, h2, h3, h4.kept hq, cell, ?_, h6⟩
  rw [hq t (Array.getElem?_eq_some_iff.mp h5).1 (fun z => absurd h6.2.2.2.2 (Nat.not_lt.mpr z))]
  exact h5
def XC (g : Nat) (p : Program) (s : State) (m : MethodId) (args : Array Value) (meth : Method) (c : Code) : Prop :=
  p.tables.exec = Jvm.exec ∧ c.code = gCd g ∧ c.maxLocals = gL g ∧ meth.sig.returnType = none ∧ s.vm.findClass (RN (gO g)) = some m.cls ∧ (∀ w ∈ lwg, w.before args s = true) ∧ meth.locks = false ∧ (g < 9 → meth.name = "<init>")
def QG (D : va_G) (cA : Nat → ClassId) (S0 : Nat) (ad : Nat → Nat) (n0 : Nat) (G' : List GE) : Array Value → State → Outcome → State → Prop := fun _ st oc t =>
  oc = .returned none ∧ ∃ ad' : Nat → Nat, (∀ k, k < n0 → ad' k = ad k) ∧ va_P D vwCl (gwd cA ad' G') t.heap ∧ va_D (AS S0) (gwd cA ad' G') ∧ va_F (AS S0) st t
def VG (l : Launch) (D : va_G) (cA : Nat → ClassId) (S0 t g pc : Nat) (ls st : List Value) (G : List GE) (cells slots : Nat) (G' : List GE) : Prop :=
  ∀ (ad0 : Nat → Nat) (n0 : Nat) (ad : Nat → Nat) (p : Program) (e : Env) (s : State) (m : MethodId) (args : Array Value) (below : List Frame) (meth : Method) (c : Code) (H : Heap) (locs : List Loc) (lsA : Array Slot),
    (∀ k, k < n0 → ad k = ad0 k) → n0 ≤ G.length → XC g p s m args meth c → va_K D vwCl (tysO cA) s → XW cA S0 t s s.heap → S0 ≤ s.heap.size → va_P D vwCl (gwd cA ad G) H → va_D (AS S0) (gwd cA ad G) → va_S (AS S0) s.heap H locs → LR (gL g) ad lsA ls →
    W p l e (rmG g) s m args below meth c H locs cells slots (MQ below (QG D cA S0 ad0 n0 G') args s (gMc g) (gMs g) (AS S0)) (F0 m pc lsA (st.map (cv ad)))

