/-! the law: its code, its world -/
def kdLaw0 : List (Nat × Instr × Nat) := [(0, .new 8, 3), (3, .dup, 1), (4, .invokespecial 34, 3), (7, .astore_n 1, 1), (8, .new 35, 3), (11, .dup, 1), (12, .invokespecial 37, 3), (15, .astore_n 2, 1), (16, .iconst 1, 1), (17, .newarray .long, 2), (19, .astore_n 3, 1), (20, .iconst 0, 1), (21, .istore 4, 2), (23, .iload 4, 2), (25, .aload_n 0, 1), (26, .arraylength, 1), (27, .iconst 2, 1), (28, .isub, 1), (29, .if_icmp .gt 467, 3), (32, .aload_n 0, 1), (33, .iload 4, 2), (35, .iaload, 1), (36, .bipush 15, 2), (38, .iand, 1), (39, .tableswitch 451 0 12 #[65, 92, 105, 149, 162, 206, 219, 232, 257, 313, 369, 413, 426], 65), (104, .aload_n 1, 1), (105, .aload_n 0, 1), (106, .iload 4, 2), (108, .iconst 1, 1), (109, .iadd, 1), (110, .iaload, 1), (111, .i2c, 1), (112, .invokevirtual 38, 3), (115, .aload_n 2, 1), (116, .aload_n 0, 1), (117, .iload 4, 2), (119, .iconst 1, 1), (120, .iadd, 1), (121, .iaload, 1), (122, .i2c, 1), (123, .invokevirtual 42, 3), (126, .if_icmp .eq 364, 3), (129, .iconst 0, 1), (130, .ireturn, 1)]
theorem kdLaw0_ok : ∀ q ∈ kdLaw0, decode code q.1 = .ok q.2 := by decide +kernel
def kdLaw1 : List (Nat × Instr × Nat) := [(131, .aload_n 1, 1), (132, .invokevirtual 43, 3), (135, .aload_n 2, 1), (136, .invokevirtual 46, 3), (139, .if_icmp .eq 351, 3), (142, .iconst 0, 1), (143, .ireturn, 1), (144, .aload_n 1, 1), (145, .aload_n 3, 1), (146, .invokestatic 47, 3), (149, .istore 5, 2), (151, .aload_n 2, 1), (152, .invokevirtual 52, 3), (155, .istore 6, 2), (157, .aload_n 2, 1), (158, .invokevirtual 53, 3), (161, .iload 5, 2), (163, .if_icmp .eq 5, 3), (166, .iconst 0, 1), (167, .ireturn, 1), (168, .iload 5, 2), (170, .ifCond .ne 15, 3), (173, .aload_n 3, 1), (174, .iconst 0, 1), (175, .laload, 1), (176, .iload 6, 2), (178, .i2l, 1), (179, .lcmp, 1), (180, .ifCond .eq 5, 3), (183, .iconst 0, 1), (184, .ireturn, 1), (185, .goto 305, 3), (188, .aload_n 1, 1), (189, .invokevirtual 56, 3), (192, .aload_n 2, 1), (193, .invokevirtual 59, 3), (196, .if_icmp .eq 294, 3), (199, .iconst 0, 1), (200, .ireturn, 1), (201, .aload_n 1, 1), (202, .aload_n 3, 1), (203, .invokestatic 60, 3), (206, .istore 5, 2), (208, .aload_n 2, 1)]
theorem kdLaw1_ok : ∀ q ∈ kdLaw1, decode code q.1 = .ok q.2 := by decide +kernel
def kdLaw2 : List (Nat × Instr × Nat) := [(209, .invokevirtual 62, 3), (212, .istore 6, 2), (214, .aload_n 2, 1), (215, .invokevirtual 53, 3), (218, .iload 5, 2), (220, .if_icmp .eq 5, 3), (223, .iconst 0, 1), (224, .ireturn, 1), (225, .iload 5, 2), (227, .ifCond .ne 15, 3), (230, .aload_n 3, 1), (231, .iconst 0, 1), (232, .laload, 1), (233, .iload 6, 2), (235, .i2l, 1), (236, .lcmp, 1), (237, .ifCond .eq 5, 3), (240, .iconst 0, 1), (241, .ireturn, 1), (242, .goto 248, 3), (245, .aload_n 1, 1), (246, .invokevirtual 63, 3), (249, .aload_n 2, 1), (250, .invokevirtual 67, 3), (253, .if_icmp .eq 237, 3), (256, .iconst 0, 1), (257, .ireturn, 1), (258, .aload_n 1, 1), (259, .invokevirtual 68, 3), (262, .aload_n 2, 1), (263, .invokevirtual 71, 3), (266, .if_icmp .eq 224, 3), (269, .iconst 0, 1), (270, .ireturn, 1), (271, .aload_n 1, 1), (272, .aload_n 0, 1), (273, .iload 4, 2), (275, .iconst 1, 1), (276, .iadd, 1), (277, .iaload, 1), (278, .invokevirtual 72, 3), (281, .aload_n 2, 1), (282, .aload_n 0, 1), (283, .iload 4, 2)]
theorem kdLaw2_ok : ∀ q ∈ kdLaw2, decode code q.1 = .ok q.2 := by decide +kernel
def kdLaw3 : List (Nat × Instr × Nat) := [(285, .iconst 1, 1), (286, .iadd, 1), (287, .iaload, 1), (288, .invokevirtual 75, 3), (291, .if_icmp .eq 199, 3), (294, .iconst 0, 1), (295, .ireturn, 1), (296, .aload_n 1, 1), (297, .aload_n 0, 1), (298, .iload 4, 2), (300, .iconst 1, 1), (301, .iadd, 1), (302, .iaload, 1), (303, .aload_n 3, 1), (304, .invokestatic 76, 3), (307, .istore 5, 2), (309, .aload_n 2, 1), (310, .aload_n 0, 1), (311, .iload 4, 2), (313, .iconst 1, 1), (314, .iadd, 1), (315, .iaload, 1), (316, .invokevirtual 79, 3), (319, .istore 6, 2), (321, .aload_n 2, 1), (322, .invokevirtual 53, 3), (325, .iload 5, 2), (327, .if_icmp .eq 5, 3), (330, .iconst 0, 1), (331, .ireturn, 1), (332, .iload 5, 2), (334, .ifCond .ne 15, 3), (337, .aload_n 3, 1), (338, .iconst 0, 1), (339, .laload, 1), (340, .iload 6, 2), (342, .i2l, 1), (343, .lcmp, 1), (344, .ifCond .eq 5, 3), (347, .iconst 0, 1), (348, .ireturn, 1), (349, .goto 141, 3), (352, .aload_n 1, 1), (353, .aload_n 0, 1)]
theorem kdLaw3_ok : ∀ q ∈ kdLaw3, decode code q.1 = .ok q.2 := by decide +kernel
def kdLaw4 : List (Nat × Instr × Nat) := [(354, .iload 4, 2), (356, .iconst 1, 1), (357, .iadd, 1), (358, .iaload, 1), (359, .aload_n 3, 1), (360, .invokestatic 80, 3), (363, .istore 5, 2), (365, .aload_n 2, 1), (366, .aload_n 0, 1), (367, .iload 4, 2), (369, .iconst 1, 1), (370, .iadd, 1), (371, .iaload, 1), (372, .invokevirtual 82, 3), (375, .istore 6, 2), (377, .aload_n 2, 1), (378, .invokevirtual 53, 3), (381, .iload 5, 2), (383, .if_icmp .eq 5, 3), (386, .iconst 0, 1), (387, .ireturn, 1), (388, .iload 5, 2), (390, .ifCond .ne 15, 3), (393, .aload_n 3, 1), (394, .iconst 0, 1), (395, .laload, 1), (396, .iload 6, 2), (398, .i2l, 1), (399, .lcmp, 1), (400, .ifCond .eq 5, 3), (403, .iconst 0, 1), (404, .ireturn, 1), (405, .goto 85, 3), (408, .aload_n 1, 1), (409, .aload_n 3, 1), (410, .invokestatic 83, 3), (413, .istore 5, 2), (415, .aload_n 2, 1), (416, .invokevirtual 85, 3), (419, .istore 6, 2), (421, .aload_n 2, 1), (422, .invokevirtual 53, 3), (425, .iload 5, 2), (427, .if_icmp .eq 5, 3)]
theorem kdLaw4_ok : ∀ q ∈ kdLaw4, decode code q.1 = .ok q.2 := by decide +kernel
def kdLaw5 : List (Nat × Instr × Nat) := [(430, .iconst 0, 1), (431, .ireturn, 1), (432, .iload 5, 2), (434, .ifCond .ne 15, 3), (437, .aload_n 3, 1), (438, .iconst 0, 1), (439, .laload, 1), (440, .iload 6, 2), (442, .i2l, 1), (443, .lcmp, 1), (444, .ifCond .eq 5, 3), (447, .iconst 0, 1), (448, .ireturn, 1), (449, .goto 41, 3), (452, .aload_n 1, 1), (453, .invokevirtual 86, 3), (456, .aload_n 2, 1), (457, .invokevirtual 89, 3), (460, .if_icmp .eq 30, 3), (463, .iconst 0, 1), (464, .ireturn, 1), (465, .aload_n 1, 1), (466, .aload_n 0, 1), (467, .iload 4, 2), (469, .iconst 1, 1), (470, .iadd, 1), (471, .iaload, 1), (472, .invokevirtual 90, 3), (475, .aload_n 2, 1), (476, .aload_n 0, 1), (477, .iload 4, 2), (479, .iconst 1, 1), (480, .iadd, 1), (481, .iaload, 1), (482, .invokevirtual 94, 3), (485, .if_icmp .eq 5, 3), (488, .iconst 0, 1), (489, .ireturn, 1), (490, .iinc 4 2, 3), (493, .goto (-470), 3), (496, .iconst 1, 1), (497, .ireturn, 1)]
theorem kdLaw5_ok : ∀ q ∈ kdLaw5, decode code q.1 = .ok q.2 := by decide +kernel
def kdLaw : List (Nat × Instr × Nat) := kdLaw0 ++ (kdLaw1 ++ (kdLaw2 ++ (kdLaw3 ++ (kdLaw4 ++ (kdLaw5)))))
theorem kdLaw_ok : ∀ q ∈ kdLaw, decode code q.1 = .ok q.2 := List.forall_mem_append.mpr ⟨kdLaw0_ok, List.forall_mem_append.mpr ⟨kdLaw1_ok, List.forall_mem_append.mpr ⟨kdLaw2_ok, List.forall_mem_append.mpr ⟨kdLaw3_ok, List.forall_mem_append.mpr ⟨kdLaw4_ok, kdLaw5_ok⟩⟩⟩⟩⟩
def kl_L_0 : List am_V := [.inr (.inl 1), .inr (.inl 3), .inr (.inl 5), .inr (.inl 10), .inr (.inl 24)]
def kl_L_1 (r : qt6) : List am_V := [.inr (.inl 2), .inl (qg6_length r), .inl (qg6_spilled r)]
def kl_L_2 (t : qt6) : List am_V := [.inr (.inl 4), .inl (qg6_length t), .inl (qg6_spilled t)]
def kl_L_3 (m : qt2) : List am_V := [.inr (.inl 6), .inr (.inl 7), .inr (.inl 8), .inr (.inl 9)]
def kl_L_4 (y : qt0) : List am_V := [.inr (.inl 11), .inr (.inl 19), .inr (.inl 20), .inr (.inl 21), .inr (.inl 22), .inr (.inl 23), .inl (qg0_openCount y), .inl (qg0_holeCount y), .inl (qg0_faultPlace y), .inl (qg0_compiled y)]
def kl_L_5 (x : qt5) : List am_V := [.inr (.inl 12), .inr (.inl 13), .inr (.inl 14), .inr (.inl 15), .inr (.inl 16), .inr (.inl 17), .inr (.inl 18), .inl (qg5_count x), .inl (qg5_templateLength x)]
def kl_L_6 (c : qt1) : List am_V := [.inl (qg1_name c), .inl (qg1_element c), .inl (qg1_quote c), .inl (qg1_kind c), .inl (qg1_part c)]
def kl_L_7 : List am_V := [.inr (.inl 25)]
def kl_L_8 (u : qt6) : List am_V := [.inr (.inl 26), .inl (qg6_length u), .inl (qg6_spilled u)]
def kl_L_9 (s : hs) : List am_V := [.inl (hm_thrown s), .inl (hm_typed s), .inr (.inl 28), .inl (hm_length s), .inr (.inl 29), .inl (hm_symbols s), .inr (.inl 30), .inr (.inl 31), .inr (.inl 32), .inr (.inl 33), .inr (.inl 34), .inr (.inl 35), .inr (.inl 36), .inl (hm_compiled s), .inl (hm_fault s), .inl (hm_holes s), .inr (.inl 37), .inl (hm_context s), .inl (hm_element s), .inl (hm_quote s), .inl (hm_kind s), .inl (hm_part s), .inl (hm_open s), .inr (.inl 38), .inr (.inl 39), .inr (.inl 40), .inr (.inl 41), .inr (.inl 42), .inr (.inl 43), .inr (.inl 44), .inr (.inl 45), .inl (hm_deep s), .inr (.inl 46), .inr (.inl 47), .inl (hm_size s), .inr (.inl 48), .inl (hm_full s)]
def lw9 (r : qt6) (t : qt6) (m : qt2) (y : qt0) (x : qt5) (c : qt1) (u : qt6) (s : hs) (g : Nat → Int32) : List am_C := [.inr (9, kl_L_0), .inr (6, kl_L_1 r), .inl (1, 40, qg6_chars r), .inr (6, kl_L_2 t), .inl (1, 240, qg6_chars t), .inr (2, kl_L_3 m), .inl (1, 1280, qg2_chars m), .inl (0, 32, qg2_lengths m), .inl (0, 8, qg2_counts m), .inl (0, 8, qg2_alone m), .inr (0, kl_L_4 y), .inr (5, kl_L_5 x), .inl (0, 240, qg5_kinds x), .inl (1, 240, qg5_signs x), .inl (0, 240, qg5_variables x), .inl (0, 240, qg5_places x), .inl (0, 240, qg5_turns x), .inl (0, 240, qg5_closes x), .inl (0, 240, qg5_codes x), .inr (1, kl_L_6 c), .inl (0, 240, qg0_holeCodes y), .inl (0, 6, qg0_openSymbols y), .inl (0, 6, qg0_openContexts y), .inl (0, 6, qg0_turnContexts y), .inr (8, kl_L_7), .inr (6, kl_L_8 u), .inl (1, 1000, qg6_chars u), .inr (10, kl_L_9 s), .inl (1, 40, hm_row s), .inl (1, 240, hm_template s), .inl (0, 240, hm_sort s), .inl (1, 240, hm_sign s), .inl (0, 240, hm_place s), .inl (0, 240, hm_marked s), .inl (0, 240, hm_other s), .inl (0, 240, hm_closing s), .inl (0, 240, hm_opener s), .inl (0, 80, hm_contexts s), .inl (0, 6, hm_opened s), .inl (0, 6, hm_before s), .inl (0, 6, hm_ended s), .inl (2, 6, hm_divided s), .inl (0, 8, hm_counts s), .inl (0, 32, hm_lengths s), .inl (1, 1280, hm_items s), .inl (0, 8, hm_alone s), .inl (0, 6, hm_loops s), .inl (0, 6, hm_saved s), .inl (1, 1000, hm_out s), .inl (4, 1, g)]
set_option maxRecDepth 100000 in
set_option maxHeartbeats 4000000 in
theorem lw_Ho (r : qt6) (t : qt6) (m : qt2) (y : qt0) (x : qt5) (c : qt1) (u : qt6) (s : hs) (g : Nat → Int32) : am_sow (lw9 r t m y x c u s g) [0, 1, 2, 3, 4, 5, 6, 7, 8, 9, 10, 20, 21, 22, 23, 11, 12, 13, 14, 15, 16, 17, 18, 19, 24, 25, 26] = true := rfl
set_option maxRecDepth 100000 in
set_option maxHeartbeats 4000000 in
theorem lw_Hs (r : qt6) (t : qt6) (m : qt2) (y : qt0) (x : qt5) (c : qt1) (u : qt6) (s : hs) (g : Nat → Int32) : am_sub (lw9 r t m y x c u s g) [0, 1, 2, 3, 4, 5, 6, 7, 8, 9, 10, 20, 21, 22, 23, 11, 12, 13, 14, 15, 16, 17, 18, 19, 24, 25, 26] = kw_H r t m y x c u := rfl
set_option maxRecDepth 100000 in
set_option maxHeartbeats 4000000 in
theorem lw_Hm (r : qt6) (t : qt6) (m : qt2) (y : qt0) (x : qt5) (c : qt1) (u : qt6) (s : hs) (g : Nat → Int32) (r2 : qt6) (t2 : qt6) (m2 : qt2) (y2 : qt0) (x2 : qt5) (c2 : qt1) (u2 : qt6) : am_mix (lw9 r t m y x c u s g) [0, 1, 2, 3, 4, 5, 6, 7, 8, 9, 10, 20, 21, 22, 23, 11, 12, 13, 14, 15, 16, 17, 18, 19, 24, 25, 26] (kw_H r2 t2 m2 y2 x2 c2 u2) = lw9 r2 t2 m2 y2 x2 c2 u2 s g := rfl
set_option maxRecDepth 100000 in
set_option maxHeartbeats 4000000 in
theorem lw_Hl (r : qt6) (t : qt6) (m : qt2) (y : qt0) (x : qt5) (c : qt1) (u : qt6) : am_wl (kw_H r t m y x c u) 27 = true := rfl
set_option maxRecDepth 100000 in
set_option maxHeartbeats 4000000 in
theorem lw_Mo (r : qt6) (t : qt6) (m : qt2) (y : qt0) (x : qt5) (c : qt1) (u : qt6) (s : hs) (g : Nat → Int32) : am_sow (lw9 r t m y x c u s g) [27, 28, 29, 30, 31, 32, 33, 34, 35, 36, 37, 38, 39, 40, 41, 42, 43, 44, 45, 46, 47, 48] = true := rfl
set_option maxRecDepth 100000 in
set_option maxHeartbeats 4000000 in
theorem lw_Ms (r : qt6) (t : qt6) (m : qt2) (y : qt0) (x : qt5) (c : qt1) (u : qt6) (s : hs) (g : Nat → Int32) : am_sub (lw9 r t m y x c u s g) [27, 28, 29, 30, 31, 32, 33, 34, 35, 36, 37, 38, 39, 40, 41, 42, 43, 44, 45, 46, 47, 48] = hm_w s := rfl
set_option maxRecDepth 100000 in
set_option maxHeartbeats 4000000 in
theorem lw_Mm (r : qt6) (t : qt6) (m : qt2) (y : qt0) (x : qt5) (c : qt1) (u : qt6) (s : hs) (g : Nat → Int32) (s2 : hs) : am_mix (lw9 r t m y x c u s g) [27, 28, 29, 30, 31, 32, 33, 34, 35, 36, 37, 38, 39, 40, 41, 42, 43, 44, 45, 46, 47, 48] (hm_w s2) = lw9 r t m y x c u s2 g := rfl
set_option maxRecDepth 100000 in
set_option maxHeartbeats 4000000 in
theorem lw_Ml (s : hs) : am_wl (hm_w s) 22 = true := rfl
set_option maxRecDepth 100000 in
set_option maxHeartbeats 4000000 in
theorem lw_Oo (r : qt6) (t : qt6) (m : qt2) (y : qt0) (x : qt5) (c : qt1) (u : qt6) (s : hs) (g : Nat → Int32) : am_sow (lw9 r t m y x c u s g) [0, 1, 2, 3, 4, 5, 6, 7, 8, 9, 10, 20, 21, 22, 23, 11, 12, 13, 14, 15, 16, 17, 18, 19, 24, 25, 26, 49] = true := rfl
set_option maxRecDepth 100000 in
set_option maxHeartbeats 4000000 in
theorem lw_Os (r : qt6) (t : qt6) (m : qt2) (y : qt0) (x : qt5) (c : qt1) (u : qt6) (s : hs) (g : Nat → Int32) : am_sub (lw9 r t m y x c u s g) [0, 1, 2, 3, 4, 5, 6, 7, 8, 9, 10, 20, 21, 22, 23, 11, 12, 13, 14, 15, 16, 17, 18, 19, 24, 25, 26, 49] = kw_HO r t m y x c u g := rfl
set_option maxRecDepth 100000 in
set_option maxHeartbeats 4000000 in
theorem lw_Om (r : qt6) (t : qt6) (m : qt2) (y : qt0) (x : qt5) (c : qt1) (u : qt6) (s : hs) (g : Nat → Int32) (r2 : qt6) (t2 : qt6) (m2 : qt2) (y2 : qt0) (x2 : qt5) (c2 : qt1) (u2 : qt6) (g2 : Nat → Int32) : am_mix (lw9 r t m y x c u s g) [0, 1, 2, 3, 4, 5, 6, 7, 8, 9, 10, 20, 21, 22, 23, 11, 12, 13, 14, 15, 16, 17, 18, 19, 24, 25, 26, 49] (kw_HO r2 t2 m2 y2 x2 c2 u2 g2) = lw9 r2 t2 m2 y2 x2 c2 u2 s g2 := rfl
set_option maxRecDepth 100000 in
set_option maxHeartbeats 4000000 in
theorem lw_Ol (r : qt6) (t : qt6) (m : qt2) (y : qt0) (x : qt5) (c : qt1) (u : qt6) (g : Nat → Int32) : am_wl (kw_HO r t m y x c u g) 28 = true := rfl
theorem am_cyk {T : am_T} {len pc : Nat} {L : List (Option am_V)} {w w' wc : List am_C} {k j : Nat} {kt : am_S → Option am_Z} {a a' rest : List am_V} {sel : List Nat} {pre : List am_V → List am_C → Prop} {d1 : Decidable (am_sow w sel = true)} {d2 : Decidable (pre (a.map (am_dn sel)) (am_sub w sel))} {f : am_M} {z : Option am_Z} {r : Option am_V × List am_C × Nat × Nat} (hs : am_sow w sel = true) (hi : a.all (am_hin sel) = true) (ha : a.map (am_dn sel) = a') (hw : am_sub w sel = wc) (h : pre a' wc) (e : f a' wc = r) (hl : am_wl r.2.1 sel.length = true) (hr : am_loO sel.length r.1 = true) (hm : am_mix w sel r.2.1 = w') (hk : k + r.2.2.1 ≤ am_mc T) (hj : j + r.2.2.2 ≤ am_ms T) (h8 : Nat.ble rest.length 8 = true)
    (q : am_nx len pc kt 3 L (am_ans sel w.length r.1 ++ rest) w' (k + r.2.2.1) (j + r.2.2.2) = z) : @ite _ (am_sow w sel = true) d1 (bif a.all (am_hin sel) then @ite _ (pre (a.map (am_dn sel)) (am_sub w sel)) d2 (am_aft T len pc L w k j kt rest sel (f (a.map (am_dn sel)) (am_sub w sel))) none else none) none = z := by
  refine am_cy hs hi ha hw h e hl hr hm ?_
  rw [Nat.ble_eq_true_of_le hk, Nat.ble_eq_true_of_le hj, h8]
  exact q
theorem kv9 : ∀ (ad ou : Nat → Nat) (j : Nat), j < 5 → defaultValue (hn_y9 j) = vp_V (hn_d9.map (am_v ad ou)) j := by
  intro ad ou j hj
  match j, hj with
  | 0, _ => rfl
  | 1, _ => rfl
  | 2, _ => rfl
  | 3, _ => rfl
  | 4, _ => rfl
  | j + 5, h => exact absurd h (by omega)
theorem kv10 : ∀ (ad ou : Nat → Nat) (j : Nat), j < 37 → defaultValue (hn_y10 j) = vp_V (hn_d10.map (am_v ad ou)) j := by
  intro ad ou j hj
  match j, hj with
  | 0, _ => rfl
  | 1, _ => rfl
  | 2, _ => rfl
  | 3, _ => rfl
  | 4, _ => rfl
  | 5, _ => rfl
  | 6, _ => rfl
  | 7, _ => rfl
  | 8, _ => rfl
  | 9, _ => rfl
  | 10, _ => rfl
  | 11, _ => rfl
  | 12, _ => rfl
  | 13, _ => rfl
  | 14, _ => rfl
  | 15, _ => rfl
  | 16, _ => rfl
  | 17, _ => rfl
  | 18, _ => rfl
  | 19, _ => rfl
  | 20, _ => rfl
  | 21, _ => rfl
  | 22, _ => rfl
  | 23, _ => rfl
  | 24, _ => rfl
  | 25, _ => rfl
  | 26, _ => rfl
  | 27, _ => rfl
  | 28, _ => rfl
  | 29, _ => rfl
  | 30, _ => rfl
  | 31, _ => rfl
  | 32, _ => rfl
  | 33, _ => rfl
  | 34, _ => rfl
  | 35, _ => rfl
  | 36, _ => rfl
  | j + 37, h => exact absurd h (by omega)
