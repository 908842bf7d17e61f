/-! the law's segments -/
noncomputable def kiLaw0 : List (Nat × Option (List Nat) × Nat × (List am_V → List am_C → Prop) × am_M) := [(4, none, 1, pr9_init, fm9_init), (12, some [27], 1, pr10_init, fm10_init), (112, some [0, 1, 2, 3, 4, 5, 6, 7, 8, 9, 10, 20, 21, 22, 23, 11, 12, 13, 14, 15, 16, 17, 18, 19, 24, 25, 26], 2, pr9_type, fm9_type), (123, some [27, 28, 29, 30, 31, 32, 33, 34, 35, 36, 37, 38, 39, 40, 41, 42, 43, 44, 45, 46, 47, 48], 2, pr10_type, fm10_type), (132, some [0, 1, 2, 3, 4, 5, 6, 7, 8, 9, 10, 20, 21, 22, 23, 11, 12, 13, 14, 15, 16, 17, 18, 19, 24, 25, 26], 1, pr9_wipe, fm9_wipe), (136, some [27, 28, 29, 30, 31, 32, 33, 34, 35, 36, 37, 38, 39, 40, 41, 42, 43, 44, 45, 46, 47, 48], 1, pr10_wipe, fm10_wipe), (146, some [0, 1, 2, 3, 4, 5, 6, 7, 8, 9, 10, 20, 21, 22, 23, 11, 12, 13, 14, 15, 16, 17, 18, 19, 24, 25, 26, 49], 2, prL_add, fmL_add), (152, some [27, 28, 29, 30, 31, 32, 33, 34, 35, 36, 37, 38, 39, 40, 41, 42, 43, 44, 45, 46, 47, 48], 1, pr10_add, fm10_add), (158, some [27, 28, 29, 30, 31, 32, 33, 34, 35, 36, 37, 38, 39, 40, 41, 42, 43, 44, 45, 46, 47, 48], 1, pr10_thrown, fm10_thrown), (189, some [0, 1, 2, 3, 4, 5, 6, 7, 8, 9, 10, 20, 21, 22, 23, 11, 12, 13, 14, 15, 16, 17, 18, 19, 24, 25, 26], 1, pr9_clear, fm9_clear), (193, some [27, 28, 29, 30, 31, 32, 33, 34, 35, 36, 37, 38, 39, 40, 41, 42, 43, 44, 45, 46, 47, 48], 1, pr10_clear, fm10_clear), (203, some [0, 1, 2, 3, 4, 5, 6, 7, 8, 9, 10, 20, 21, 22, 23, 11, 12, 13, 14, 15, 16, 17, 18, 19, 24, 25, 26, 49], 2, prL_compile, fmL_compile), (209, some [27, 28, 29, 30, 31, 32, 33, 34, 35, 36, 37, 38, 39, 40, 41, 42, 43, 44, 45, 46, 47, 48], 1, pr10_compile, fm10_compile), (215, some [27, 28, 29, 30, 31, 32, 33, 34, 35, 36, 37, 38, 39, 40, 41, 42, 43, 44, 45, 46, 47, 48], 1, pr10_thrown, fm10_thrown), (246, some [0, 1, 2, 3, 4, 5, 6, 7, 8, 9, 10, 20, 21, 22, 23, 11, 12, 13, 14, 15, 16, 17, 18, 19, 24, 25, 26], 1, pr9_accepts, fm9_accepts), (250, some [27, 28, 29, 30, 31, 32, 33, 34, 35, 36, 37, 38, 39, 40, 41, 42, 43, 44, 45, 46, 47, 48], 1, pr10_accepts, fm10_accepts), (259, some [0, 1, 2, 3, 4, 5, 6, 7, 8, 9, 10, 20, 21, 22, 23, 11, 12, 13, 14, 15, 16, 17, 18, 19, 24, 25, 26], 1, pr9_fault, fm9_fault), (263, some [27, 28, 29, 30, 31, 32, 33, 34, 35, 36, 37, 38, 39, 40, 41, 42, 43, 44, 45, 46, 47, 48], 1, pr10_fault, fm10_fault), (278, some [0, 1, 2, 3, 4, 5, 6, 7, 8, 9, 10, 20, 21, 22, 23, 11, 12, 13, 14, 15, 16, 17, 18, 19, 24, 25, 26], 2, pr9_hole, fm9_hole), (288, some [27, 28, 29, 30, 31, 32, 33, 34, 35, 36, 37, 38, 39, 40, 41, 42, 43, 44, 45, 46, 47, 48], 2, pr10_hole, fm10_hole), (304, some [0, 1, 2, 3, 4, 5, 6, 7, 8, 9, 10, 20, 21, 22, 23, 11, 12, 13, 14, 15, 16, 17, 18, 19, 24, 25, 26, 49], 3, prL_item, fmL_item), (316, some [27, 28, 29, 30, 31, 32, 33, 34, 35, 36, 37, 38, 39, 40, 41, 42, 43, 44, 45, 46, 47, 48], 2, pr10_item, fm10_item), (322, some [27, 28, 29, 30, 31, 32, 33, 34, 35, 36, 37, 38, 39, 40, 41, 42, 43, 44, 45, 46, 47, 48], 1, pr10_thrown, fm10_thrown), (360, some [0, 1, 2, 3, 4, 5, 6, 7, 8, 9, 10, 20, 21, 22, 23, 11, 12, 13, 14, 15, 16, 17, 18, 19, 24, 25, 26, 49], 3, prL_forget, fmL_forget), (372, some [27, 28, 29, 30, 31, 32, 33, 34, 35, 36, 37, 38, 39, 40, 41, 42, 43, 44, 45, 46, 47, 48], 2, pr10_forget, fm10_forget), (378, some [27, 28, 29, 30, 31, 32, 33, 34, 35, 36, 37, 38, 39, 40, 41, 42, 43, 44, 45, 46, 47, 48], 1, pr10_thrown, fm10_thrown), (410, some [0, 1, 2, 3, 4, 5, 6, 7, 8, 9, 10, 20, 21, 22, 23, 11, 12, 13, 14, 15, 16, 17, 18, 19, 24, 25, 26, 49], 2, prL_write, fmL_write), (416, some [27, 28, 29, 30, 31, 32, 33, 34, 35, 36, 37, 38, 39, 40, 41, 42, 43, 44, 45, 46, 47, 48], 1, pr10_write, fm10_write), (422, some [27, 28, 29, 30, 31, 32, 33, 34, 35, 36, 37, 38, 39, 40, 41, 42, 43, 44, 45, 46, 47, 48], 1, pr10_thrown, fm10_thrown), (453, some [0, 1, 2, 3, 4, 5, 6, 7, 8, 9, 10, 20, 21, 22, 23, 11, 12, 13, 14, 15, 16, 17, 18, 19, 24, 25, 26], 1, pr9_written, fm9_written), (457, some [27, 28, 29, 30, 31, 32, 33, 34, 35, 36, 37, 38, 39, 40, 41, 42, 43, 44, 45, 46, 47, 48], 1, pr10_written, fm10_written), (472, some [0, 1, 2, 3, 4, 5, 6, 7, 8, 9, 10, 20, 21, 22, 23, 11, 12, 13, 14, 15, 16, 17, 18, 19, 24, 25, 26], 2, pr9_letter, fm9_letter), (482, some [27, 28, 29, 30, 31, 32, 33, 34, 35, 36, 37, 38, 39, 40, 41, 42, 43, 44, 45, 46, 47, 48], 2, pr10_letter, fm10_letter)]
noncomputable def kiLaw1 : List (Nat × Option (List Nat) × Nat × (List am_V → List am_C → Prop) × am_M) := [(4, none, 1, pr9_init, fm9_init), (12, some [27], 1, pr10_init, fm10_init), (112, some [0, 1, 2, 3, 4, 5, 6, 7, 8, 9, 10, 20, 21, 22, 23, 11, 12, 13, 14, 15, 16, 17, 18, 19, 24, 25, 26], 2, pr9_type, fm9_type), (123, some [27, 28, 29, 30, 31, 32, 33, 34, 35, 36, 37, 38, 39, 40, 41, 42, 43, 44, 45, 46, 47, 48], 2, pr10_type, fm10_type), (132, some [0, 1, 2, 3, 4, 5, 6, 7, 8, 9, 10, 20, 21, 22, 23, 11, 12, 13, 14, 15, 16, 17, 18, 19, 24, 25, 26], 1, pr9_wipe, fm9_wipe), (136, some [27, 28, 29, 30, 31, 32, 33, 34, 35, 36, 37, 38, 39, 40, 41, 42, 43, 44, 45, 46, 47, 48], 1, pr10_wipe, fm10_wipe), (146, some [0, 1, 2, 3, 4, 5, 6, 7, 8, 9, 10, 20, 21, 22, 23, 11, 12, 13, 14, 15, 16, 17, 18, 19, 24, 25, 26, 49], 2, prL_add_21, fmL_add_21), (152, some [27, 28, 29, 30, 31, 32, 33, 34, 35, 36, 37, 38, 39, 40, 41, 42, 43, 44, 45, 46, 47, 48], 1, pr10_add, fm10_add), (158, some [27, 28, 29, 30, 31, 32, 33, 34, 35, 36, 37, 38, 39, 40, 41, 42, 43, 44, 45, 46, 47, 48], 1, pr10_thrown, fm10_thrown), (189, some [0, 1, 2, 3, 4, 5, 6, 7, 8, 9, 10, 20, 21, 22, 23, 11, 12, 13, 14, 15, 16, 17, 18, 19, 24, 25, 26], 1, pr9_clear, fm9_clear), (193, some [27, 28, 29, 30, 31, 32, 33, 34, 35, 36, 37, 38, 39, 40, 41, 42, 43, 44, 45, 46, 47, 48], 1, pr10_clear, fm10_clear), (203, some [0, 1, 2, 3, 4, 5, 6, 7, 8, 9, 10, 20, 21, 22, 23, 11, 12, 13, 14, 15, 16, 17, 18, 19, 24, 25, 26, 49], 2, prL_compile_14, fmL_compile_14), (209, some [27, 28, 29, 30, 31, 32, 33, 34, 35, 36, 37, 38, 39, 40, 41, 42, 43, 44, 45, 46, 47, 48], 1, pr10_compile, fm10_compile), (215, some [27, 28, 29, 30, 31, 32, 33, 34, 35, 36, 37, 38, 39, 40, 41, 42, 43, 44, 45, 46, 47, 48], 1, pr10_thrown, fm10_thrown), (246, some [0, 1, 2, 3, 4, 5, 6, 7, 8, 9, 10, 20, 21, 22, 23, 11, 12, 13, 14, 15, 16, 17, 18, 19, 24, 25, 26], 1, pr9_accepts, fm9_accepts), (250, some [27, 28, 29, 30, 31, 32, 33, 34, 35, 36, 37, 38, 39, 40, 41, 42, 43, 44, 45, 46, 47, 48], 1, pr10_accepts, fm10_accepts), (259, some [0, 1, 2, 3, 4, 5, 6, 7, 8, 9, 10, 20, 21, 22, 23, 11, 12, 13, 14, 15, 16, 17, 18, 19, 24, 25, 26], 1, pr9_fault, fm9_fault), (263, some [27, 28, 29, 30, 31, 32, 33, 34, 35, 36, 37, 38, 39, 40, 41, 42, 43, 44, 45, 46, 47, 48], 1, pr10_fault, fm10_fault), (278, some [0, 1, 2, 3, 4, 5, 6, 7, 8, 9, 10, 20, 21, 22, 23, 11, 12, 13, 14, 15, 16, 17, 18, 19, 24, 25, 26], 2, pr9_hole, fm9_hole), (288, some [27, 28, 29, 30, 31, 32, 33, 34, 35, 36, 37, 38, 39, 40, 41, 42, 43, 44, 45, 46, 47, 48], 2, pr10_hole, fm10_hole), (304, some [0, 1, 2, 3, 4, 5, 6, 7, 8, 9, 10, 20, 21, 22, 23, 11, 12, 13, 14, 15, 16, 17, 18, 19, 24, 25, 26, 49], 3, prL_item_11, fmL_item_11), (316, some [27, 28, 29, 30, 31, 32, 33, 34, 35, 36, 37, 38, 39, 40, 41, 42, 43, 44, 45, 46, 47, 48], 2, pr10_item, fm10_item), (322, some [27, 28, 29, 30, 31, 32, 33, 34, 35, 36, 37, 38, 39, 40, 41, 42, 43, 44, 45, 46, 47, 48], 1, pr10_thrown, fm10_thrown), (360, some [0, 1, 2, 3, 4, 5, 6, 7, 8, 9, 10, 20, 21, 22, 23, 11, 12, 13, 14, 15, 16, 17, 18, 19, 24, 25, 26, 49], 3, prL_forget_11, fmL_forget_11), (372, some [27, 28, 29, 30, 31, 32, 33, 34, 35, 36, 37, 38, 39, 40, 41, 42, 43, 44, 45, 46, 47, 48], 2, pr10_forget, fm10_forget), (378, some [27, 28, 29, 30, 31, 32, 33, 34, 35, 36, 37, 38, 39, 40, 41, 42, 43, 44, 45, 46, 47, 48], 1, pr10_thrown, fm10_thrown), (410, some [0, 1, 2, 3, 4, 5, 6, 7, 8, 9, 10, 20, 21, 22, 23, 11, 12, 13, 14, 15, 16, 17, 18, 19, 24, 25, 26, 49], 2, prL_write_10, fmL_write_10), (416, some [27, 28, 29, 30, 31, 32, 33, 34, 35, 36, 37, 38, 39, 40, 41, 42, 43, 44, 45, 46, 47, 48], 1, pr10_write, fm10_write), (422, some [27, 28, 29, 30, 31, 32, 33, 34, 35, 36, 37, 38, 39, 40, 41, 42, 43, 44, 45, 46, 47, 48], 1, pr10_thrown, fm10_thrown), (453, some [0, 1, 2, 3, 4, 5, 6, 7, 8, 9, 10, 20, 21, 22, 23, 11, 12, 13, 14, 15, 16, 17, 18, 19, 24, 25, 26], 1, pr9_written, fm9_written), (457, some [27, 28, 29, 30, 31, 32, 33, 34, 35, 36, 37, 38, 39, 40, 41, 42, 43, 44, 45, 46, 47, 48], 1, pr10_written, fm10_written), (472, some [0, 1, 2, 3, 4, 5, 6, 7, 8, 9, 10, 20, 21, 22, 23, 11, 12, 13, 14, 15, 16, 17, 18, 19, 24, 25, 26], 2, pr9_letter, fm9_letter), (482, some [27, 28, 29, 30, 31, 32, 33, 34, 35, 36, 37, 38, 39, 40, 41, 42, 43, 44, 45, 46, 47, 48], 2, pr10_letter, fm10_letter)]
noncomputable def kiLaw2 : List (Nat × Option (List Nat) × Nat × (List am_V → List am_C → Prop) × am_M) := [(4, none, 1, pr9_init, fm9_init), (12, some [27], 1, pr10_init, fm10_init), (112, some [0, 1, 2, 3, 4, 5, 6, 7, 8, 9, 10, 20, 21, 22, 23, 11, 12, 13, 14, 15, 16, 17, 18, 19, 24, 25, 26], 2, pr9_type, fm9_type), (123, some [27, 28, 29, 30, 31, 32, 33, 34, 35, 36, 37, 38, 39, 40, 41, 42, 43, 44, 45, 46, 47, 48], 2, pr10_type, fm10_type), (132, some [0, 1, 2, 3, 4, 5, 6, 7, 8, 9, 10, 20, 21, 22, 23, 11, 12, 13, 14, 15, 16, 17, 18, 19, 24, 25, 26], 1, pr9_wipe, fm9_wipe), (136, some [27, 28, 29, 30, 31, 32, 33, 34, 35, 36, 37, 38, 39, 40, 41, 42, 43, 44, 45, 46, 47, 48], 1, pr10_wipe, fm10_wipe), (146, some [0, 1, 2, 3, 4, 5, 6, 7, 8, 9, 10, 20, 21, 22, 23, 11, 12, 13, 14, 15, 16, 17, 18, 19, 24, 25, 26, 49], 2, prL_add_21, fmL_add_21), (152, some [27, 28, 29, 30, 31, 32, 33, 34, 35, 36, 37, 38, 39, 40, 41, 42, 43, 44, 45, 46, 47, 48], 1, pr10_add, fm10_add), (158, some [27, 28, 29, 30, 31, 32, 33, 34, 35, 36, 37, 38, 39, 40, 41, 42, 43, 44, 45, 46, 47, 48], 1, pr10_thrown, fm10_thrown), (189, some [0, 1, 2, 3, 4, 5, 6, 7, 8, 9, 10, 20, 21, 22, 23, 11, 12, 13, 14, 15, 16, 17, 18, 19, 24, 25, 26], 1, pr9_clear, fm9_clear), (193, some [27, 28, 29, 30, 31, 32, 33, 34, 35, 36, 37, 38, 39, 40, 41, 42, 43, 44, 45, 46, 47, 48], 1, pr10_clear, fm10_clear), (203, some [0, 1, 2, 3, 4, 5, 6, 7, 8, 9, 10, 20, 21, 22, 23, 11, 12, 13, 14, 15, 16, 17, 18, 19, 24, 25, 26, 49], 2, prL_compile_14, fmL_compile_14), (209, some [27, 28, 29, 30, 31, 32, 33, 34, 35, 36, 37, 38, 39, 40, 41, 42, 43, 44, 45, 46, 47, 48], 1, pr10_compile, fm10_compile), (215, some [27, 28, 29, 30, 31, 32, 33, 34, 35, 36, 37, 38, 39, 40, 41, 42, 43, 44, 45, 46, 47, 48], 1, pr10_thrown, fm10_thrown), (246, some [0, 1, 2, 3, 4, 5, 6, 7, 8, 9, 10, 20, 21, 22, 23, 11, 12, 13, 14, 15, 16, 17, 18, 19, 24, 25, 26], 1, pr9_accepts, fm9_accepts), (250, some [27, 28, 29, 30, 31, 32, 33, 34, 35, 36, 37, 38, 39, 40, 41, 42, 43, 44, 45, 46, 47, 48], 1, pr10_accepts, fm10_accepts), (259, some [0, 1, 2, 3, 4, 5, 6, 7, 8, 9, 10, 20, 21, 22, 23, 11, 12, 13, 14, 15, 16, 17, 18, 19, 24, 25, 26], 1, pr9_fault, fm9_fault), (263, some [27, 28, 29, 30, 31, 32, 33, 34, 35, 36, 37, 38, 39, 40, 41, 42, 43, 44, 45, 46, 47, 48], 1, pr10_fault, fm10_fault), (278, some [0, 1, 2, 3, 4, 5, 6, 7, 8, 9, 10, 20, 21, 22, 23, 11, 12, 13, 14, 15, 16, 17, 18, 19, 24, 25, 26], 2, pr9_hole, fm9_hole), (288, some [27, 28, 29, 30, 31, 32, 33, 34, 35, 36, 37, 38, 39, 40, 41, 42, 43, 44, 45, 46, 47, 48], 2, pr10_hole, fm10_hole), (304, some [0, 1, 2, 3, 4, 5, 6, 7, 8, 9, 10, 20, 21, 22, 23, 11, 12, 13, 14, 15, 16, 17, 18, 19, 24, 25, 26, 49], 3, prL_item_36, fmL_item_36), (316, some [27, 28, 29, 30, 31, 32, 33, 34, 35, 36, 37, 38, 39, 40, 41, 42, 43, 44, 45, 46, 47, 48], 2, pr10_item, fm10_item), (322, some [27, 28, 29, 30, 31, 32, 33, 34, 35, 36, 37, 38, 39, 40, 41, 42, 43, 44, 45, 46, 47, 48], 1, pr10_thrown, fm10_thrown), (360, some [0, 1, 2, 3, 4, 5, 6, 7, 8, 9, 10, 20, 21, 22, 23, 11, 12, 13, 14, 15, 16, 17, 18, 19, 24, 25, 26, 49], 3, prL_forget_11, fmL_forget_11), (372, some [27, 28, 29, 30, 31, 32, 33, 34, 35, 36, 37, 38, 39, 40, 41, 42, 43, 44, 45, 46, 47, 48], 2, pr10_forget, fm10_forget), (378, some [27, 28, 29, 30, 31, 32, 33, 34, 35, 36, 37, 38, 39, 40, 41, 42, 43, 44, 45, 46, 47, 48], 1, pr10_thrown, fm10_thrown), (410, some [0, 1, 2, 3, 4, 5, 6, 7, 8, 9, 10, 20, 21, 22, 23, 11, 12, 13, 14, 15, 16, 17, 18, 19, 24, 25, 26, 49], 2, prL_write_41, fmL_write_41), (416, some [27, 28, 29, 30, 31, 32, 33, 34, 35, 36, 37, 38, 39, 40, 41, 42, 43, 44, 45, 46, 47, 48], 1, pr10_write, fm10_write), (422, some [27, 28, 29, 30, 31, 32, 33, 34, 35, 36, 37, 38, 39, 40, 41, 42, 43, 44, 45, 46, 47, 48], 1, pr10_thrown, fm10_thrown), (453, some [0, 1, 2, 3, 4, 5, 6, 7, 8, 9, 10, 20, 21, 22, 23, 11, 12, 13, 14, 15, 16, 17, 18, 19, 24, 25, 26], 1, pr9_written, fm9_written), (457, some [27, 28, 29, 30, 31, 32, 33, 34, 35, 36, 37, 38, 39, 40, 41, 42, 43, 44, 45, 46, 47, 48], 1, pr10_written, fm10_written), (472, some [0, 1, 2, 3, 4, 5, 6, 7, 8, 9, 10, 20, 21, 22, 23, 11, 12, 13, 14, 15, 16, 17, 18, 19, 24, 25, 26], 2, pr9_letter, fm9_letter), (482, some [27, 28, 29, 30, 31, 32, 33, 34, 35, 36, 37, 38, 39, 40, 41, 42, 43, 44, 45, 46, 47, 48], 2, pr10_letter, fm10_letter)]
def keLaw : List (Nat × Nat × List am_V) := [(8, 9, hn_d9), (35, 10, hn_d10)]
noncomputable def kbLaw (n : Nat) (f : Nat → Int32) (ki : List (Nat × Option (List Nat) × Nat × (List am_V → List am_C → Prop) × am_M)) : am_B := (kdLaw, fun _ => none, hn_ty, am_as keLaw, fun _ => none, am_as ki, fun o => bif o == 74 then some (0, n, f) else none, 5, 7, (some .boolean))
set_option maxRecDepth 100000 in
set_option maxHeartbeats 4000000 in
theorem sl_type {n : Nat} {f : Nat → Int32} {i : Int32} (r : qt6) (t : qt6) (m : qt2) (y : qt0) (x : qt5) (c : qt1) (u : qt6) (s : hs) (g : Nat → Int32) {j5 j6 : Option am_V} {k j : Nat} (hi : ¬ Int32.ofNat n - 2 < i) (hb0 : am_inb i n = true) (hb1 : am_inb (i + 1) n = true) (hx : f i.toNatClampNeg &&& 15 = 0) (hp : wp9_type r t m y x c u ((f (i + 1).toNatClampNeg).toUInt32 % 65536).toInt32) (hq : wp10_type s ((f (i + 1).toNatClampNeg).toUInt32 % 65536).toInt32) (he : ((fn9_type r t m y x c u ((f (i + 1).toNatClampNeg).toUInt32 % 65536).toInt32).1) = ((fn10_type s ((f (i + 1).toNatClampNeg).toUInt32 % 65536).toInt32).1)) (hk : k ≤ 601024) (hj : j ≤ 7293034) : am_sg (am_mk (kbLaw n f kiLaw0) 601024 7293034 0) [23] (23, [some (.inr (.inr 75)), some (.inr (.inl 0)), some (.inr (.inl 27)), some (.inr (.inl 49)), some (.inl i), j5, j6], [], (lw9 r t m y x c u s g), k, j) (23, [some (.inr (.inr 75)), some (.inr (.inl 0)), some (.inr (.inl 27)), some (.inr (.inl 49)), some (.inl (i + 2)), j5, j6], [], (lw9 ((fn9_type r t m y x c u ((f (i + 1).toNatClampNeg).toUInt32 % 65536).toInt32).2) t m y x c u ((fn10_type s ((f (i + 1).toNatClampNeg).toUInt32 % 65536).toInt32).2) g), k, j) := by
  refine am_sg_of fun kt hkt => ?_
  refine am_cn (c := Int32.ofNat n - 2 < i) hi ?_
  refine am_ci (c := am_inb i n = true) hb0 ?_
  refine am_ci (c := (f i.toNatClampNeg &&& 15) = (0 : Int32)) hx ?_
  refine am_ci (c := am_inb (i + 1) n = true) hb1 ?_
  refine am_cyk (pre := pr9_type) (f := fm9_type) (a' := [.inr (.inl 0), .inl ((f (i + 1).toNatClampNeg).toUInt32 % 65536).toInt32]) (wc := (kw_H r t m y x c u)) (w' := (lw9 ((fn9_type r t m y x c u ((f (i + 1).toNatClampNeg).toUInt32 % 65536).toInt32).2) t m y x c u s g)) (r := (some (.inl ((fn9_type r t m y x c u ((f (i + 1).toNatClampNeg).toUInt32 % 65536).toInt32).1)), (kw_H ((fn9_type r t m y x c u ((f (i + 1).toNatClampNeg).toUInt32 % 65536).toInt32).2) t m y x c u), 0, 0)) ?_ ?_ ?_ ?_ ?_ ?_ ?_ ?_ ?_ ?_ ?_ ?_ ?_
  · exact lw_Ho r t m y x c u s g
  · rfl
  · rfl
  · exact lw_Hs r t m y x c u s g
  · exact ⟨r, t, m, y, x, c, u, ((f (i + 1).toNatClampNeg).toUInt32 % 65536).toInt32, rfl, rfl, hp⟩
  · exact fe9_type r t m y x c u ((f (i + 1).toNatClampNeg).toUInt32 % 65536).toInt32
  · exact lw_Hl ((fn9_type r t m y x c u ((f (i + 1).toNatClampNeg).toUInt32 % 65536).toInt32).2) t m y x c u
  · rfl
  · exact lw_Hm r t m y x c u s g ((fn9_type r t m y x c u ((f (i + 1).toNatClampNeg).toUInt32 % 65536).toInt32).2) t m y x c u
  · exact hk
  · exact hj
  · rfl
  refine am_ci (c := am_inb (i + 1) n = true) hb1 ?_
  refine am_cyk (pre := pr10_type) (f := fm10_type) (a' := [.inr (.inl 0), .inl ((f (i + 1).toNatClampNeg).toUInt32 % 65536).toInt32]) (wc := (hm_w s)) (w' := (lw9 ((fn9_type r t m y x c u ((f (i + 1).toNatClampNeg).toUInt32 % 65536).toInt32).2) t m y x c u ((fn10_type s ((f (i + 1).toNatClampNeg).toUInt32 % 65536).toInt32).2) g)) (r := (some (.inl ((fn10_type s ((f (i + 1).toNatClampNeg).toUInt32 % 65536).toInt32).1)), (hm_w ((fn10_type s ((f (i + 1).toNatClampNeg).toUInt32 % 65536).toInt32).2)), 0, 0)) ?_ ?_ ?_ ?_ ?_ ?_ ?_ ?_ ?_ ?_ ?_ ?_ ?_
  · exact lw_Mo ((fn9_type r t m y x c u ((f (i + 1).toNatClampNeg).toUInt32 % 65536).toInt32).2) t m y x c u s g
  · rfl
  · rfl
  · exact lw_Ms ((fn9_type r t m y x c u ((f (i + 1).toNatClampNeg).toUInt32 % 65536).toInt32).2) t m y x c u s g
  · exact ⟨s, ((f (i + 1).toNatClampNeg).toUInt32 % 65536).toInt32, rfl, rfl, hq⟩
  · exact fe10_type s ((f (i + 1).toNatClampNeg).toUInt32 % 65536).toInt32
  · exact lw_Ml ((fn10_type s ((f (i + 1).toNatClampNeg).toUInt32 % 65536).toInt32).2)
  · rfl
  · exact lw_Mm ((fn9_type r t m y x c u ((f (i + 1).toNatClampNeg).toUInt32 % 65536).toInt32).2) t m y x c u s g ((fn10_type s ((f (i + 1).toNatClampNeg).toUInt32 % 65536).toInt32).2)
  · exact hk
  · exact hj
  · rfl
  refine am_ci (c := ((fn9_type r t m y x c u ((f (i + 1).toNatClampNeg).toUInt32 % 65536).toInt32).1) = ((fn10_type s ((f (i + 1).toNatClampNeg).toUInt32 % 65536).toInt32).1)) he ?_
  exact hkt
set_option maxRecDepth 100000 in
set_option maxHeartbeats 4000000 in
theorem sl_wipe {n : Nat} {f : Nat → Int32} {i : Int32} (r : qt6) (t : qt6) (m : qt2) (y : qt0) (x : qt5) (c : qt1) (u : qt6) (s : hs) (g : Nat → Int32) {j5 j6 : Option am_V} {k j : Nat} (hi : ¬ Int32.ofNat n - 2 < i) (hb0 : am_inb i n = true) (hx : f i.toNatClampNeg &&& 15 = 1) (hp : wp9_wipe r t m y x c u) (hq : wp10_wipe s) (he : ((fn9_wipe r t m y x c u).1) = ((fn10_wipe s).1)) (hk : k ≤ 601024) (hj : j ≤ 7293034) : am_sg (am_mk (kbLaw n f kiLaw0) 601024 7293034 0) [23] (23, [some (.inr (.inr 75)), some (.inr (.inl 0)), some (.inr (.inl 27)), some (.inr (.inl 49)), some (.inl i), j5, j6], [], (lw9 r t m y x c u s g), k, j) (23, [some (.inr (.inr 75)), some (.inr (.inl 0)), some (.inr (.inl 27)), some (.inr (.inl 49)), some (.inl (i + 2)), j5, j6], [], (lw9 ((fn9_wipe r t m y x c u).2) t m y x c u ((fn10_wipe s).2) g), k, j) := by
  refine am_sg_of fun kt hkt => ?_
  refine am_cn (c := Int32.ofNat n - 2 < i) hi ?_
  refine am_ci (c := am_inb i n = true) hb0 ?_
  refine am_cn (c := (f i.toNatClampNeg &&& 15) = (0 : Int32)) (by rw [hx]; decide) ?_
  refine am_ci (c := (f i.toNatClampNeg &&& 15) = (1 : Int32)) hx ?_
  refine am_cyk (pre := pr9_wipe) (f := fm9_wipe) (a' := [.inr (.inl 0)]) (wc := (kw_H r t m y x c u)) (w' := (lw9 ((fn9_wipe r t m y x c u).2) t m y x c u s g)) (r := (some (.inl ((fn9_wipe r t m y x c u).1)), (kw_H ((fn9_wipe r t m y x c u).2) t m y x c u), 0, 0)) ?_ ?_ ?_ ?_ ?_ ?_ ?_ ?_ ?_ ?_ ?_ ?_ ?_
  · exact lw_Ho r t m y x c u s g
  · rfl
  · rfl
  · exact lw_Hs r t m y x c u s g
  · exact ⟨r, t, m, y, x, c, u, rfl, rfl, hp⟩
  · exact fe9_wipe r t m y x c u
  · exact lw_Hl ((fn9_wipe r t m y x c u).2) t m y x c u
  · rfl
  · exact lw_Hm r t m y x c u s g ((fn9_wipe r t m y x c u).2) t m y x c u
  · exact hk
  · exact hj
  · rfl
  refine am_cyk (pre := pr10_wipe) (f := fm10_wipe) (a' := [.inr (.inl 0)]) (wc := (hm_w s)) (w' := (lw9 ((fn9_wipe r t m y x c u).2) t m y x c u ((fn10_wipe s).2) g)) (r := (some (.inl ((fn10_wipe s).1)), (hm_w ((fn10_wipe s).2)), 0, 0)) ?_ ?_ ?_ ?_ ?_ ?_ ?_ ?_ ?_ ?_ ?_ ?_ ?_
  · exact lw_Mo ((fn9_wipe r t m y x c u).2) t m y x c u s g
  · rfl
  · rfl
  · exact lw_Ms ((fn9_wipe r t m y x c u).2) t m y x c u s g
  · exact ⟨s, rfl, rfl, hq⟩
  · exact fe10_wipe s
  · exact lw_Ml ((fn10_wipe s).2)
  · rfl
  · exact lw_Mm ((fn9_wipe r t m y x c u).2) t m y x c u s g ((fn10_wipe s).2)
  · exact hk
  · exact hj
  · rfl
  refine am_ci (c := ((fn9_wipe r t m y x c u).1) = ((fn10_wipe s).1)) he ?_
  exact hkt
set_option maxRecDepth 100000 in
set_option maxHeartbeats 4000000 in
theorem sl_add {n : Nat} {f : Nat → Int32} {i : Int32} (r : qt6) (t : qt6) (m : qt2) (y : qt0) (x : qt5) (c : qt1) (u : qt6) (s : hs) (g : Nat → Int32) {j5 j6 : Option am_V} {k j : Nat} (hi : ¬ Int32.ofNat n - 2 < i) (hb0 : am_inb i n = true) (hx : f i.toNatClampNeg &&& 15 = 2) (hp : wp9_add r t m y x c u) (hq : wp10_add s) (hz : wp10_thrown ((fn10_add s).2)) (he : (fn10_thrown ((fn10_add s).2)) = 0) (hk : k ≤ 601024) (hj : j ≤ 7293034) : am_sg (am_mk (kbLaw n f kiLaw0) 601024 7293034 0) [175] (23, [some (.inr (.inr 75)), some (.inr (.inl 0)), some (.inr (.inl 27)), some (.inr (.inl 49)), some (.inl i), j5, j6], [], (lw9 r t m y x c u s g), k, j) (175, [some (.inr (.inr 75)), some (.inr (.inl 0)), some (.inr (.inl 27)), some (.inr (.inl 49)), some (.inl i), some (.inl 0), some (.inl ((fn10_add s).1))], [.inl 0, .inr (.inl 49)], (lw9 ((fn9_add r t m y x c u).2.1) ((fn9_add r t m y x c u).2.2.1) m ((fn9_add r t m y x c u).2.2.2) x c u ((fn10_add s).2) (upd g 0 ((fn9_add r t m y x c u).1))), k, j) := by
  refine am_sg_of fun kt hkt => ?_
  refine am_cn (c := Int32.ofNat n - 2 < i) hi ?_
  refine am_ci (c := am_inb i n = true) hb0 ?_
  refine am_cn (c := (f i.toNatClampNeg &&& 15) = (0 : Int32)) (by rw [hx]; decide) ?_
  refine am_cn (c := (f i.toNatClampNeg &&& 15) = (1 : Int32)) (by rw [hx]; decide) ?_
  refine am_ci (c := (f i.toNatClampNeg &&& 15) = (2 : Int32)) hx ?_
  refine am_cyk (pre := prL_add) (f := fmL_add) (a' := [.inr (.inl 0), .inr (.inl 27)]) (wc := (kw_HO r t m y x c u g)) (w' := (lw9 ((fn9_add r t m y x c u).2.1) ((fn9_add r t m y x c u).2.2.1) m ((fn9_add r t m y x c u).2.2.2) x c u s (upd g 0 ((fn9_add r t m y x c u).1)))) (r := (some (.inl 0), (kw_HO ((fn9_add r t m y x c u).2.1) ((fn9_add r t m y x c u).2.2.1) m ((fn9_add r t m y x c u).2.2.2) x c u (upd g 0 ((fn9_add r t m y x c u).1))), 0, 0)) ?_ ?_ ?_ ?_ ?_ ?_ ?_ ?_ ?_ ?_ ?_ ?_ ?_
  · exact lw_Oo r t m y x c u s g
  · rfl
  · rfl
  · exact lw_Os r t m y x c u s g
  · exact ⟨r, t, m, y, x, c, u, g, rfl, rfl, hp⟩
  · exact feL_add r t m y x c u g
  · exact lw_Ol ((fn9_add r t m y x c u).2.1) ((fn9_add r t m y x c u).2.2.1) m ((fn9_add r t m y x c u).2.2.2) x c u (upd g 0 ((fn9_add r t m y x c u).1))
  · rfl
  · exact lw_Om r t m y x c u s g ((fn9_add r t m y x c u).2.1) ((fn9_add r t m y x c u).2.2.1) m ((fn9_add r t m y x c u).2.2.2) x c u (upd g 0 ((fn9_add r t m y x c u).1))
  · exact hk
  · exact hj
  · rfl
  refine am_cyk (pre := pr10_add) (f := fm10_add) (a' := [.inr (.inl 0)]) (wc := (hm_w s)) (w' := (lw9 ((fn9_add r t m y x c u).2.1) ((fn9_add r t m y x c u).2.2.1) m ((fn9_add r t m y x c u).2.2.2) x c u ((fn10_add s).2) (upd g 0 ((fn9_add r t m y x c u).1)))) (r := (some (.inl ((fn10_add s).1)), (hm_w ((fn10_add s).2)), 0, 0)) ?_ ?_ ?_ ?_ ?_ ?_ ?_ ?_ ?_ ?_ ?_ ?_ ?_
  · exact lw_Mo ((fn9_add r t m y x c u).2.1) ((fn9_add r t m y x c u).2.2.1) m ((fn9_add r t m y x c u).2.2.2) x c u s (upd g 0 ((fn9_add r t m y x c u).1))
  · rfl
  · rfl
  · exact lw_Ms ((fn9_add r t m y x c u).2.1) ((fn9_add r t m y x c u).2.2.1) m ((fn9_add r t m y x c u).2.2.2) x c u s (upd g 0 ((fn9_add r t m y x c u).1))
  · exact ⟨s, rfl, rfl, hq⟩
  · exact fe10_add s
  · exact lw_Ml ((fn10_add s).2)
  · rfl
  · exact lw_Mm ((fn9_add r t m y x c u).2.1) ((fn9_add r t m y x c u).2.2.1) m ((fn9_add r t m y x c u).2.2.2) x c u s (upd g 0 ((fn9_add r t m y x c u).1)) ((fn10_add s).2)
  · exact hk
  · exact hj
  · rfl
  refine am_cyk (pre := pr10_thrown) (f := fm10_thrown) (a' := [.inr (.inl 0)]) (wc := (hm_w ((fn10_add s).2))) (w' := (lw9 ((fn9_add r t m y x c u).2.1) ((fn9_add r t m y x c u).2.2.1) m ((fn9_add r t m y x c u).2.2.2) x c u ((fn10_add s).2) (upd g 0 ((fn9_add r t m y x c u).1)))) (r := (some (.inl (fn10_thrown ((fn10_add s).2))), (hm_w ((fn10_add s).2)), 0, 0)) ?_ ?_ ?_ ?_ ?_ ?_ ?_ ?_ ?_ ?_ ?_ ?_ ?_
  · exact lw_Mo ((fn9_add r t m y x c u).2.1) ((fn9_add r t m y x c u).2.2.1) m ((fn9_add r t m y x c u).2.2.2) x c u ((fn10_add s).2) (upd g 0 ((fn9_add r t m y x c u).1))
  · rfl
  · rfl
  · exact lw_Ms ((fn9_add r t m y x c u).2.1) ((fn9_add r t m y x c u).2.2.1) m ((fn9_add r t m y x c u).2.2.2) x c u ((fn10_add s).2) (upd g 0 ((fn9_add r t m y x c u).1))
  · exact ⟨((fn10_add s).2), rfl, rfl, hz⟩
  · exact fe10_thrown ((fn10_add s).2)
  · exact lw_Ml ((fn10_add s).2)
  · rfl
  · exact lw_Mm ((fn9_add r t m y x c u).2.1) ((fn9_add r t m y x c u).2.2.1) m ((fn9_add r t m y x c u).2.2.2) x c u ((fn10_add s).2) (upd g 0 ((fn9_add r t m y x c u).1)) ((fn10_add s).2)
  · exact hk
  · exact hj
  · rfl
  refine am_ci (c := (fn10_thrown ((fn10_add s).2)) = 0) he ?_
  exact hkt
set_option maxRecDepth 100000 in
set_option maxHeartbeats 4000000 in
theorem sm_add {n : Nat} {f : Nat → Int32} {i b : Int32} {w : List am_C} {k j : Nat} : am_sg (am_mk (kbLaw n f kiLaw0) 601024 7293034 0) [23] (180, [some (.inr (.inr 75)), some (.inr (.inl 0)), some (.inr (.inl 27)), some (.inr (.inl 49)), some (.inl i), some (.inl 0), some (.inl b)], [.inl 0], w, k, j) (23, [some (.inr (.inr 75)), some (.inr (.inl 0)), some (.inr (.inl 27)), some (.inr (.inl 49)), some (.inl (i + 2)), some (.inl 0), some (.inl b)], [], w, k, j) := by
  refine am_sg_of fun kt hkt => ?_
  exact hkt
set_option maxRecDepth 100000 in
set_option maxHeartbeats 4000000 in
theorem sl_add_21 {n : Nat} {f : Nat → Int32} {i : Int32} (r : qt6) (t : qt6) (m : qt2) (y : qt0) (x : qt5) (c : qt1) (u : qt6) (s : hs) (g : Nat → Int32) {j5 j6 : Option am_V} {k j : Nat} (hi : ¬ Int32.ofNat n - 2 < i) (hb0 : am_inb i n = true) (hx : f i.toNatClampNeg &&& 15 = 2) (hp : wt9_add_21 r t m y x c u) (hq : wp10_add s) (hz : wp10_thrown ((fn10_add s).2)) (he : (fn10_thrown ((fn10_add s).2)) = 1) (hk1 : k + 1 ≤ 601024) (hj1 : j + 6 ≤ 7293034) : am_sg (am_mk (kbLaw n f kiLaw1) 601024 7293034 0) [23] (23, [some (.inr (.inr 75)), some (.inr (.inl 0)), some (.inr (.inl 27)), some (.inr (.inl 49)), some (.inl i), j5, j6], [], (lw9 r t m y x c u s g), k, j) (23, [some (.inr (.inr 75)), some (.inr (.inl 0)), some (.inr (.inl 27)), some (.inr (.inl 49)), some (.inl (i + 2)), some (.inl 1), some (.inl ((fn10_add s).1))], [], (lw9 r t m y x c u ((fn10_add s).2) g), k + 1, j + 6) := by
  refine am_sg_of fun kt hkt => ?_
  refine am_cn (c := Int32.ofNat n - 2 < i) hi ?_
  refine am_ci (c := am_inb i n = true) hb0 ?_
  refine am_cn (c := (f i.toNatClampNeg &&& 15) = (0 : Int32)) (by rw [hx]; decide) ?_
  refine am_cn (c := (f i.toNatClampNeg &&& 15) = (1 : Int32)) (by rw [hx]; decide) ?_
  refine am_ci (c := (f i.toNatClampNeg &&& 15) = (2 : Int32)) hx ?_
  refine am_cyk (pre := prL_add_21) (f := fmL_add_21) (a' := [.inr (.inl 0), .inr (.inl 27)]) (wc := (kw_HO r t m y x c u g)) (w' := (lw9 r t m y x c u s g)) (r := (some (.inl 1), (kw_HO r t m y x c u g), 1, 6)) ?_ ?_ ?_ ?_ ?_ ?_ ?_ ?_ ?_ ?_ ?_ ?_ ?_
  · exact lw_Oo r t m y x c u s g
  · rfl
  · rfl
  · exact lw_Os r t m y x c u s g
  · exact ⟨r, t, m, y, x, c, u, g, rfl, rfl, hp⟩
  · exact feL_add_21 r t m y x c u g
  · exact lw_Ol r t m y x c u g
  · rfl
  · exact lw_Om r t m y x c u s g r t m y x c u g
  · exact hk1
  · exact hj1
  · rfl
  refine am_cyk (pre := pr10_add) (f := fm10_add) (a' := [.inr (.inl 0)]) (wc := (hm_w s)) (w' := (lw9 r t m y x c u ((fn10_add s).2) g)) (r := (some (.inl ((fn10_add s).1)), (hm_w ((fn10_add s).2)), 0, 0)) ?_ ?_ ?_ ?_ ?_ ?_ ?_ ?_ ?_ ?_ ?_ ?_ ?_
  · exact lw_Mo r t m y x c u s g
  · rfl
  · rfl
  · exact lw_Ms r t m y x c u s g
  · exact ⟨s, rfl, rfl, hq⟩
  · exact fe10_add s
  · exact lw_Ml ((fn10_add s).2)
  · rfl
  · exact lw_Mm r t m y x c u s g ((fn10_add s).2)
  · exact hk1
  · exact hj1
  · rfl
  refine am_cyk (pre := pr10_thrown) (f := fm10_thrown) (a' := [.inr (.inl 0)]) (wc := (hm_w ((fn10_add s).2))) (w' := (lw9 r t m y x c u ((fn10_add s).2) g)) (r := (some (.inl (fn10_thrown ((fn10_add s).2))), (hm_w ((fn10_add s).2)), 0, 0)) ?_ ?_ ?_ ?_ ?_ ?_ ?_ ?_ ?_ ?_ ?_ ?_ ?_
  · exact lw_Mo r t m y x c u ((fn10_add s).2) g
  · rfl
  · rfl
  · exact lw_Ms r t m y x c u ((fn10_add s).2) g
  · exact ⟨((fn10_add s).2), rfl, rfl, hz⟩
  · exact fe10_thrown ((fn10_add s).2)
  · exact lw_Ml ((fn10_add s).2)
  · rfl
  · exact lw_Mm r t m y x c u ((fn10_add s).2) g ((fn10_add s).2)
  · exact hk1
  · exact hj1
  · rfl
  refine am_ci (c := (fn10_thrown ((fn10_add s).2)) = 1) he ?_
  exact hkt
set_option maxRecDepth 100000 in
set_option maxHeartbeats 4000000 in
theorem sl_clear {n : Nat} {f : Nat → Int32} {i : Int32} (r : qt6) (t : qt6) (m : qt2) (y : qt0) (x : qt5) (c : qt1) (u : qt6) (s : hs) (g : Nat → Int32) {j5 j6 : Option am_V} {k j : Nat} (hi : ¬ Int32.ofNat n - 2 < i) (hb0 : am_inb i n = true) (hx : f i.toNatClampNeg &&& 15 = 3) (hp : wp9_clear r t m y x c u) (hq : wp10_clear s) (he : ((fn9_clear r t m y x c u).1) = ((fn10_clear s).1)) (hk : k ≤ 601024) (hj : j ≤ 7293034) : am_sg (am_mk (kbLaw n f kiLaw0) 601024 7293034 0) [23] (23, [some (.inr (.inr 75)), some (.inr (.inl 0)), some (.inr (.inl 27)), some (.inr (.inl 49)), some (.inl i), j5, j6], [], (lw9 r t m y x c u s g), k, j) (23, [some (.inr (.inr 75)), some (.inr (.inl 0)), some (.inr (.inl 27)), some (.inr (.inl 49)), some (.inl (i + 2)), j5, j6], [], (lw9 r ((fn9_clear r t m y x c u).2.1) m ((fn9_clear r t m y x c u).2.2) x c u ((fn10_clear s).2) g), k, j) := by
  refine am_sg_of fun kt hkt => ?_
  refine am_cn (c := Int32.ofNat n - 2 < i) hi ?_
  refine am_ci (c := am_inb i n = true) hb0 ?_
  refine am_cn (c := (f i.toNatClampNeg &&& 15) = (0 : Int32)) (by rw [hx]; decide) ?_
  refine am_cn (c := (f i.toNatClampNeg &&& 15) = (1 : Int32)) (by rw [hx]; decide) ?_
  refine am_cn (c := (f i.toNatClampNeg &&& 15) = (2 : Int32)) (by rw [hx]; decide) ?_
  refine am_ci (c := (f i.toNatClampNeg &&& 15) = (3 : Int32)) hx ?_
  refine am_cyk (pre := pr9_clear) (f := fm9_clear) (a' := [.inr (.inl 0)]) (wc := (kw_H r t m y x c u)) (w' := (lw9 r ((fn9_clear r t m y x c u).2.1) m ((fn9_clear r t m y x c u).2.2) x c u s g)) (r := (some (.inl ((fn9_clear r t m y x c u).1)), (kw_H r ((fn9_clear r t m y x c u).2.1) m ((fn9_clear r t m y x c u).2.2) x c u), 0, 0)) ?_ ?_ ?_ ?_ ?_ ?_ ?_ ?_ ?_ ?_ ?_ ?_ ?_
  · exact lw_Ho r t m y x c u s g
  · rfl
  · rfl
  · exact lw_Hs r t m y x c u s g
  · exact ⟨r, t, m, y, x, c, u, rfl, rfl, hp⟩
  · exact fe9_clear r t m y x c u
  · exact lw_Hl r ((fn9_clear r t m y x c u).2.1) m ((fn9_clear r t m y x c u).2.2) x c u
  · rfl
  · exact lw_Hm r t m y x c u s g r ((fn9_clear r t m y x c u).2.1) m ((fn9_clear r t m y x c u).2.2) x c u
  · exact hk
  · exact hj
  · rfl
  refine am_cyk (pre := pr10_clear) (f := fm10_clear) (a' := [.inr (.inl 0)]) (wc := (hm_w s)) (w' := (lw9 r ((fn9_clear r t m y x c u).2.1) m ((fn9_clear r t m y x c u).2.2) x c u ((fn10_clear s).2) g)) (r := (some (.inl ((fn10_clear s).1)), (hm_w ((fn10_clear s).2)), 0, 0)) ?_ ?_ ?_ ?_ ?_ ?_ ?_ ?_ ?_ ?_ ?_ ?_ ?_
  · exact lw_Mo r ((fn9_clear r t m y x c u).2.1) m ((fn9_clear r t m y x c u).2.2) x c u s g
  · rfl
  · rfl
  · exact lw_Ms r ((fn9_clear r t m y x c u).2.1) m ((fn9_clear r t m y x c u).2.2) x c u s g
  · exact ⟨s, rfl, rfl, hq⟩
  · exact fe10_clear s
  · exact lw_Ml ((fn10_clear s).2)
  · rfl
  · exact lw_Mm r ((fn9_clear r t m y x c u).2.1) m ((fn9_clear r t m y x c u).2.2) x c u s g ((fn10_clear s).2)
  · exact hk
  · exact hj
  · rfl
  refine am_ci (c := ((fn9_clear r t m y x c u).1) = ((fn10_clear s).1)) he ?_
  exact hkt
set_option maxRecDepth 100000 in
set_option maxHeartbeats 4000000 in
theorem sl_compile {n : Nat} {f : Nat → Int32} {i : Int32} (r : qt6) (t : qt6) (m : qt2) (y : qt0) (x : qt5) (c : qt1) (u : qt6) (s : hs) (g : Nat → Int32) {j5 j6 : Option am_V} {k j : Nat} (hi : ¬ Int32.ofNat n - 2 < i) (hb0 : am_inb i n = true) (hx : f i.toNatClampNeg &&& 15 = 4) (hp : wp9_compile r t m y x c u) (hq : wp10_compile s) (hz : wp10_thrown ((fn10_compile s).2)) (he : (fn10_thrown ((fn10_compile s).2)) = 0) (hk : k ≤ 601024) (hj : j ≤ 7293034) : am_sg (am_mk (kbLaw n f kiLaw0) 601024 7293034 0) [232] (23, [some (.inr (.inr 75)), some (.inr (.inl 0)), some (.inr (.inl 27)), some (.inr (.inl 49)), some (.inl i), j5, j6], [], (lw9 r t m y x c u s g), k, j) (232, [some (.inr (.inr 75)), some (.inr (.inl 0)), some (.inr (.inl 27)), some (.inr (.inl 49)), some (.inl i), some (.inl 0), some (.inl ((fn10_compile s).1))], [.inl 0, .inr (.inl 49)], (lw9 r t m ((fn9_compile r t m y x c u).2.1) ((fn9_compile r t m y x c u).2.2.1) ((fn9_compile r t m y x c u).2.2.2) u ((fn10_compile s).2) (upd g 0 ((fn9_compile r t m y x c u).1))), k, j) := by
  refine am_sg_of fun kt hkt => ?_
  refine am_cn (c := Int32.ofNat n - 2 < i) hi ?_
  refine am_ci (c := am_inb i n = true) hb0 ?_
  refine am_cn (c := (f i.toNatClampNeg &&& 15) = (0 : Int32)) (by rw [hx]; decide) ?_
  refine am_cn (c := (f i.toNatClampNeg &&& 15) = (1 : Int32)) (by rw [hx]; decide) ?_
  refine am_cn (c := (f i.toNatClampNeg &&& 15) = (2 : Int32)) (by rw [hx]; decide) ?_
  refine am_cn (c := (f i.toNatClampNeg &&& 15) = (3 : Int32)) (by rw [hx]; decide) ?_
  refine am_ci (c := (f i.toNatClampNeg &&& 15) = (4 : Int32)) hx ?_
  refine am_cyk (pre := prL_compile) (f := fmL_compile) (a' := [.inr (.inl 0), .inr (.inl 27)]) (wc := (kw_HO r t m y x c u g)) (w' := (lw9 r t m ((fn9_compile r t m y x c u).2.1) ((fn9_compile r t m y x c u).2.2.1) ((fn9_compile r t m y x c u).2.2.2) u s (upd g 0 ((fn9_compile r t m y x c u).1)))) (r := (some (.inl 0), (kw_HO r t m ((fn9_compile r t m y x c u).2.1) ((fn9_compile r t m y x c u).2.2.1) ((fn9_compile r t m y x c u).2.2.2) u (upd g 0 ((fn9_compile r t m y x c u).1))), 0, 0)) ?_ ?_ ?_ ?_ ?_ ?_ ?_ ?_ ?_ ?_ ?_ ?_ ?_
  · exact lw_Oo r t m y x c u s g
  · rfl
  · rfl
  · exact lw_Os r t m y x c u s g
  · exact ⟨r, t, m, y, x, c, u, g, rfl, rfl, hp⟩
  · exact feL_compile r t m y x c u g
  · exact lw_Ol r t m ((fn9_compile r t m y x c u).2.1) ((fn9_compile r t m y x c u).2.2.1) ((fn9_compile r t m y x c u).2.2.2) u (upd g 0 ((fn9_compile r t m y x c u).1))
  · rfl
  · exact lw_Om r t m y x c u s g r t m ((fn9_compile r t m y x c u).2.1) ((fn9_compile r t m y x c u).2.2.1) ((fn9_compile r t m y x c u).2.2.2) u (upd g 0 ((fn9_compile r t m y x c u).1))
  · exact hk
  · exact hj
  · rfl
  refine am_cyk (pre := pr10_compile) (f := fm10_compile) (a' := [.inr (.inl 0)]) (wc := (hm_w s)) (w' := (lw9 r t m ((fn9_compile r t m y x c u).2.1) ((fn9_compile r t m y x c u).2.2.1) ((fn9_compile r t m y x c u).2.2.2) u ((fn10_compile s).2) (upd g 0 ((fn9_compile r t m y x c u).1)))) (r := (some (.inl ((fn10_compile s).1)), (hm_w ((fn10_compile s).2)), 0, 0)) ?_ ?_ ?_ ?_ ?_ ?_ ?_ ?_ ?_ ?_ ?_ ?_ ?_
  · exact lw_Mo r t m ((fn9_compile r t m y x c u).2.1) ((fn9_compile r t m y x c u).2.2.1) ((fn9_compile r t m y x c u).2.2.2) u s (upd g 0 ((fn9_compile r t m y x c u).1))
  · rfl
  · rfl
  · exact lw_Ms r t m ((fn9_compile r t m y x c u).2.1) ((fn9_compile r t m y x c u).2.2.1) ((fn9_compile r t m y x c u).2.2.2) u s (upd g 0 ((fn9_compile r t m y x c u).1))
  · exact ⟨s, rfl, rfl, hq⟩
  · exact fe10_compile s
  · exact lw_Ml ((fn10_compile s).2)
  · rfl
  · exact lw_Mm r t m ((fn9_compile r t m y x c u).2.1) ((fn9_compile r t m y x c u).2.2.1) ((fn9_compile r t m y x c u).2.2.2) u s (upd g 0 ((fn9_compile r t m y x c u).1)) ((fn10_compile s).2)
  · exact hk
  · exact hj
  · rfl
  refine am_cyk (pre := pr10_thrown) (f := fm10_thrown) (a' := [.inr (.inl 0)]) (wc := (hm_w ((fn10_compile s).2))) (w' := (lw9 r t m ((fn9_compile r t m y x c u).2.1) ((fn9_compile r t m y x c u).2.2.1) ((fn9_compile r t m y x c u).2.2.2) u ((fn10_compile s).2) (upd g 0 ((fn9_compile r t m y x c u).1)))) (r := (some (.inl (fn10_thrown ((fn10_compile s).2))), (hm_w ((fn10_compile s).2)), 0, 0)) ?_ ?_ ?_ ?_ ?_ ?_ ?_ ?_ ?_ ?_ ?_ ?_ ?_
  · exact lw_Mo r t m ((fn9_compile r t m y x c u).2.1) ((fn9_compile r t m y x c u).2.2.1) ((fn9_compile r t m y x c u).2.2.2) u ((fn10_compile s).2) (upd g 0 ((fn9_compile r t m y x c u).1))
  · rfl
  · rfl
  · exact lw_Ms r t m ((fn9_compile r t m y x c u).2.1) ((fn9_compile r t m y x c u).2.2.1) ((fn9_compile r t m y x c u).2.2.2) u ((fn10_compile s).2) (upd g 0 ((fn9_compile r t m y x c u).1))
  · exact ⟨((fn10_compile s).2), rfl, rfl, hz⟩
  · exact fe10_thrown ((fn10_compile s).2)
  · exact lw_Ml ((fn10_compile s).2)
  · rfl
  · exact lw_Mm r t m ((fn9_compile r t m y x c u).2.1) ((fn9_compile r t m y x c u).2.2.1) ((fn9_compile r t m y x c u).2.2.2) u ((fn10_compile s).2) (upd g 0 ((fn9_compile r t m y x c u).1)) ((fn10_compile s).2)
  · exact hk
  · exact hj
  · rfl
  refine am_ci (c := (fn10_thrown ((fn10_compile s).2)) = 0) he ?_
  exact hkt
set_option maxRecDepth 100000 in
set_option maxHeartbeats 4000000 in
theorem sm_compile {n : Nat} {f : Nat → Int32} {i b : Int32} {w : List am_C} {k j : Nat} : am_sg (am_mk (kbLaw n f kiLaw0) 601024 7293034 0) [23] (237, [some (.inr (.inr 75)), some (.inr (.inl 0)), some (.inr (.inl 27)), some (.inr (.inl 49)), some (.inl i), some (.inl 0), some (.inl b)], [.inl 0], w, k, j) (23, [some (.inr (.inr 75)), some (.inr (.inl 0)), some (.inr (.inl 27)), some (.inr (.inl 49)), some (.inl (i + 2)), some (.inl 0), some (.inl b)], [], w, k, j) := by
  refine am_sg_of fun kt hkt => ?_
  exact hkt
set_option maxRecDepth 100000 in
set_option maxHeartbeats 4000000 in
theorem sl_compile_14 {n : Nat} {f : Nat → Int32} {i : Int32} (r : qt6) (t : qt6) (m : qt2) (y : qt0) (x : qt5) (c : qt1) (u : qt6) (s : hs) (g : Nat → Int32) {j5 j6 : Option am_V} {k j : Nat} (hi : ¬ Int32.ofNat n - 2 < i) (hb0 : am_inb i n = true) (hx : f i.toNatClampNeg &&& 15 = 4) (hp : wt9_compile_14 r t m y x c u) (hq : wp10_compile s) (hz : wp10_thrown ((fn10_compile s).2)) (he : (fn10_thrown ((fn10_compile s).2)) = 1) (hk1 : k + 1 ≤ 601024) (hj1 : j + 6 ≤ 7293034) : am_sg (am_mk (kbLaw n f kiLaw1) 601024 7293034 0) [23] (23, [some (.inr (.inr 75)), some (.inr (.inl 0)), some (.inr (.inl 27)), some (.inr (.inl 49)), some (.inl i), j5, j6], [], (lw9 r t m y x c u s g), k, j) (23, [some (.inr (.inr 75)), some (.inr (.inl 0)), some (.inr (.inl 27)), some (.inr (.inl 49)), some (.inl (i + 2)), some (.inl 1), some (.inl ((fn10_compile s).1))], [], (lw9 r t m ((fn0_reads y x c t).2.1) ((fn0_reads y x c t).2.2.1) ((fn0_reads y x c t).2.2.2) u ((fn10_compile s).2) g), k + 1, j + 6) := by
  refine am_sg_of fun kt hkt => ?_
  refine am_cn (c := Int32.ofNat n - 2 < i) hi ?_
  refine am_ci (c := am_inb i n = true) hb0 ?_
  refine am_cn (c := (f i.toNatClampNeg &&& 15) = (0 : Int32)) (by rw [hx]; decide) ?_
  refine am_cn (c := (f i.toNatClampNeg &&& 15) = (1 : Int32)) (by rw [hx]; decide) ?_
  refine am_cn (c := (f i.toNatClampNeg &&& 15) = (2 : Int32)) (by rw [hx]; decide) ?_
  refine am_cn (c := (f i.toNatClampNeg &&& 15) = (3 : Int32)) (by rw [hx]; decide) ?_
  refine am_ci (c := (f i.toNatClampNeg &&& 15) = (4 : Int32)) hx ?_
  refine am_cyk (pre := prL_compile_14) (f := fmL_compile_14) (a' := [.inr (.inl 0), .inr (.inl 27)]) (wc := (kw_HO r t m y x c u g)) (w' := (lw9 r t m ((fn0_reads y x c t).2.1) ((fn0_reads y x c t).2.2.1) ((fn0_reads y x c t).2.2.2) u s g)) (r := (some (.inl 1), (kw_HO r t m ((fn0_reads y x c t).2.1) ((fn0_reads y x c t).2.2.1) ((fn0_reads y x c t).2.2.2) u g), 1, 6)) ?_ ?_ ?_ ?_ ?_ ?_ ?_ ?_ ?_ ?_ ?_ ?_ ?_
  · exact lw_Oo r t m y x c u s g
  · rfl
  · rfl
  · exact lw_Os r t m y x c u s g
  · exact ⟨r, t, m, y, x, c, u, g, rfl, rfl, hp⟩
  · exact feL_compile_14 r t m y x c u g
  · exact lw_Ol r t m ((fn0_reads y x c t).2.1) ((fn0_reads y x c t).2.2.1) ((fn0_reads y x c t).2.2.2) u g
  · rfl
  · exact lw_Om r t m y x c u s g r t m ((fn0_reads y x c t).2.1) ((fn0_reads y x c t).2.2.1) ((fn0_reads y x c t).2.2.2) u g
  · exact hk1
  · exact hj1
  · rfl
  refine am_cyk (pre := pr10_compile) (f := fm10_compile) (a' := [.inr (.inl 0)]) (wc := (hm_w s)) (w' := (lw9 r t m ((fn0_reads y x c t).2.1) ((fn0_reads y x c t).2.2.1) ((fn0_reads y x c t).2.2.2) u ((fn10_compile s).2) g)) (r := (some (.inl ((fn10_compile s).1)), (hm_w ((fn10_compile s).2)), 0, 0)) ?_ ?_ ?_ ?_ ?_ ?_ ?_ ?_ ?_ ?_ ?_ ?_ ?_
  · exact lw_Mo r t m ((fn0_reads y x c t).2.1) ((fn0_reads y x c t).2.2.1) ((fn0_reads y x c t).2.2.2) u s g
  · rfl
  · rfl
  · exact lw_Ms r t m ((fn0_reads y x c t).2.1) ((fn0_reads y x c t).2.2.1) ((fn0_reads y x c t).2.2.2) u s g
  · exact ⟨s, rfl, rfl, hq⟩
  · exact fe10_compile s
  · exact lw_Ml ((fn10_compile s).2)
  · rfl
  · exact lw_Mm r t m ((fn0_reads y x c t).2.1) ((fn0_reads y x c t).2.2.1) ((fn0_reads y x c t).2.2.2) u s g ((fn10_compile s).2)
  · exact hk1
  · exact hj1
  · rfl
  refine am_cyk (pre := pr10_thrown) (f := fm10_thrown) (a' := [.inr (.inl 0)]) (wc := (hm_w ((fn10_compile s).2))) (w' := (lw9 r t m ((fn0_reads y x c t).2.1) ((fn0_reads y x c t).2.2.1) ((fn0_reads y x c t).2.2.2) u ((fn10_compile s).2) g)) (r := (some (.inl (fn10_thrown ((fn10_compile s).2))), (hm_w ((fn10_compile s).2)), 0, 0)) ?_ ?_ ?_ ?_ ?_ ?_ ?_ ?_ ?_ ?_ ?_ ?_ ?_
  · exact lw_Mo r t m ((fn0_reads y x c t).2.1) ((fn0_reads y x c t).2.2.1) ((fn0_reads y x c t).2.2.2) u ((fn10_compile s).2) g
  · rfl
  · rfl
  · exact lw_Ms r t m ((fn0_reads y x c t).2.1) ((fn0_reads y x c t).2.2.1) ((fn0_reads y x c t).2.2.2) u ((fn10_compile s).2) g
  · exact ⟨((fn10_compile s).2), rfl, rfl, hz⟩
  · exact fe10_thrown ((fn10_compile s).2)
  · exact lw_Ml ((fn10_compile s).2)
  · rfl
  · exact lw_Mm r t m ((fn0_reads y x c t).2.1) ((fn0_reads y x c t).2.2.1) ((fn0_reads y x c t).2.2.2) u ((fn10_compile s).2) g ((fn10_compile s).2)
  · exact hk1
  · exact hj1
  · rfl
  refine am_ci (c := (fn10_thrown ((fn10_compile s).2)) = 1) he ?_
  exact hkt
set_option maxRecDepth 100000 in
set_option maxHeartbeats 4000000 in
theorem sl_accepts {n : Nat} {f : Nat → Int32} {i : Int32} (r : qt6) (t : qt6) (m : qt2) (y : qt0) (x : qt5) (c : qt1) (u : qt6) (s : hs) (g : Nat → Int32) {j5 j6 : Option am_V} {k j : Nat} (hi : ¬ Int32.ofNat n - 2 < i) (hb0 : am_inb i n = true) (hx : f i.toNatClampNeg &&& 15 = 5) (hp : wp9_accepts r t m y x c u) (hq : wp10_accepts s) (he : ((fn9_accepts r t m y x c u).1) = ((fn10_accepts s).1)) (hk : k ≤ 601024) (hj : j ≤ 7293034) : am_sg (am_mk (kbLaw n f kiLaw0) 601024 7293034 0) [23] (23, [some (.inr (.inr 75)), some (.inr (.inl 0)), some (.inr (.inl 27)), some (.inr (.inl 49)), some (.inl i), j5, j6], [], (lw9 r t m y x c u s g), k, j) (23, [some (.inr (.inr 75)), some (.inr (.inl 0)), some (.inr (.inl 27)), some (.inr (.inl 49)), some (.inl (i + 2)), j5, j6], [], (lw9 r t m ((fn9_accepts r t m y x c u).2.1) ((fn9_accepts r t m y x c u).2.2.1) ((fn9_accepts r t m y x c u).2.2.2) u ((fn10_accepts s).2) g), k, j) := by
  refine am_sg_of fun kt hkt => ?_
  refine am_cn (c := Int32.ofNat n - 2 < i) hi ?_
  refine am_ci (c := am_inb i n = true) hb0 ?_
  refine am_cn (c := (f i.toNatClampNeg &&& 15) = (0 : Int32)) (by rw [hx]; decide) ?_
  refine am_cn (c := (f i.toNatClampNeg &&& 15) = (1 : Int32)) (by rw [hx]; decide) ?_
  refine am_cn (c := (f i.toNatClampNeg &&& 15) = (2 : Int32)) (by rw [hx]; decide) ?_
  refine am_cn (c := (f i.toNatClampNeg &&& 15) = (3 : Int32)) (by rw [hx]; decide) ?_
  refine am_cn (c := (f i.toNatClampNeg &&& 15) = (4 : Int32)) (by rw [hx]; decide) ?_
  refine am_ci (c := (f i.toNatClampNeg &&& 15) = (5 : Int32)) hx ?_
  refine am_cyk (pre := pr9_accepts) (f := fm9_accepts) (a' := [.inr (.inl 0)]) (wc := (kw_H r t m y x c u)) (w' := (lw9 r t m ((fn9_accepts r t m y x c u).2.1) ((fn9_accepts r t m y x c u).2.2.1) ((fn9_accepts r t m y x c u).2.2.2) u s g)) (r := (some (.inl ((fn9_accepts r t m y x c u).1)), (kw_H r t m ((fn9_accepts r t m y x c u).2.1) ((fn9_accepts r t m y x c u).2.2.1) ((fn9_accepts r t m y x c u).2.2.2) u), 0, 0)) ?_ ?_ ?_ ?_ ?_ ?_ ?_ ?_ ?_ ?_ ?_ ?_ ?_
  · exact lw_Ho r t m y x c u s g
  · rfl
  · rfl
  · exact lw_Hs r t m y x c u s g
  · exact ⟨r, t, m, y, x, c, u, rfl, rfl, hp⟩
  · exact fe9_accepts r t m y x c u
  · exact lw_Hl r t m ((fn9_accepts r t m y x c u).2.1) ((fn9_accepts r t m y x c u).2.2.1) ((fn9_accepts r t m y x c u).2.2.2) u
  · rfl
  · exact lw_Hm r t m y x c u s g r t m ((fn9_accepts r t m y x c u).2.1) ((fn9_accepts r t m y x c u).2.2.1) ((fn9_accepts r t m y x c u).2.2.2) u
  · exact hk
  · exact hj
  · rfl
  refine am_cyk (pre := pr10_accepts) (f := fm10_accepts) (a' := [.inr (.inl 0)]) (wc := (hm_w s)) (w' := (lw9 r t m ((fn9_accepts r t m y x c u).2.1) ((fn9_accepts r t m y x c u).2.2.1) ((fn9_accepts r t m y x c u).2.2.2) u ((fn10_accepts s).2) g)) (r := (some (.inl ((fn10_accepts s).1)), (hm_w ((fn10_accepts s).2)), 0, 0)) ?_ ?_ ?_ ?_ ?_ ?_ ?_ ?_ ?_ ?_ ?_ ?_ ?_
  · exact lw_Mo r t m ((fn9_accepts r t m y x c u).2.1) ((fn9_accepts r t m y x c u).2.2.1) ((fn9_accepts r t m y x c u).2.2.2) u s g
  · rfl
  · rfl
  · exact lw_Ms r t m ((fn9_accepts r t m y x c u).2.1) ((fn9_accepts r t m y x c u).2.2.1) ((fn9_accepts r t m y x c u).2.2.2) u s g
  · exact ⟨s, rfl, rfl, hq⟩
  · exact fe10_accepts s
  · exact lw_Ml ((fn10_accepts s).2)
  · rfl
  · exact lw_Mm r t m ((fn9_accepts r t m y x c u).2.1) ((fn9_accepts r t m y x c u).2.2.1) ((fn9_accepts r t m y x c u).2.2.2) u s g ((fn10_accepts s).2)
  · exact hk
  · exact hj
  · rfl
  refine am_ci (c := ((fn9_accepts r t m y x c u).1) = ((fn10_accepts s).1)) he ?_
  exact hkt
set_option maxRecDepth 100000 in
set_option maxHeartbeats 4000000 in
theorem sl_fault {n : Nat} {f : Nat → Int32} {i : Int32} (r : qt6) (t : qt6) (m : qt2) (y : qt0) (x : qt5) (c : qt1) (u : qt6) (s : hs) (g : Nat → Int32) {j5 j6 : Option am_V} {k j : Nat} (hi : ¬ Int32.ofNat n - 2 < i) (hb0 : am_inb i n = true) (hx : f i.toNatClampNeg &&& 15 = 6) (hp : wp9_fault r t m y x c u) (hq : wp10_fault s) (he : (fn9_fault r t m y x c u) = ((fn10_fault s).1)) (hk : k ≤ 601024) (hj : j ≤ 7293034) : am_sg (am_mk (kbLaw n f kiLaw0) 601024 7293034 0) [23] (23, [some (.inr (.inr 75)), some (.inr (.inl 0)), some (.inr (.inl 27)), some (.inr (.inl 49)), some (.inl i), j5, j6], [], (lw9 r t m y x c u s g), k, j) (23, [some (.inr (.inr 75)), some (.inr (.inl 0)), some (.inr (.inl 27)), some (.inr (.inl 49)), some (.inl (i + 2)), j5, j6], [], (lw9 r t m y x c u ((fn10_fault s).2) g), k, j) := by
  refine am_sg_of fun kt hkt => ?_
  refine am_cn (c := Int32.ofNat n - 2 < i) hi ?_
  refine am_ci (c := am_inb i n = true) hb0 ?_
  refine am_cn (c := (f i.toNatClampNeg &&& 15) = (0 : Int32)) (by rw [hx]; decide) ?_
  refine am_cn (c := (f i.toNatClampNeg &&& 15) = (1 : Int32)) (by rw [hx]; decide) ?_
  refine am_cn (c := (f i.toNatClampNeg &&& 15) = (2 : Int32)) (by rw [hx]; decide) ?_
  refine am_cn (c := (f i.toNatClampNeg &&& 15) = (3 : Int32)) (by rw [hx]; decide) ?_
  refine am_cn (c := (f i.toNatClampNeg &&& 15) = (4 : Int32)) (by rw [hx]; decide) ?_
  refine am_cn (c := (f i.toNatClampNeg &&& 15) = (5 : Int32)) (by rw [hx]; decide) ?_
  refine am_ci (c := (f i.toNatClampNeg &&& 15) = (6 : Int32)) hx ?_
  refine am_cyk (pre := pr9_fault) (f := fm9_fault) (a' := [.inr (.inl 0)]) (wc := (kw_H r t m y x c u)) (w' := (lw9 r t m y x c u s g)) (r := (some (.inl (fn9_fault r t m y x c u)), (kw_H r t m y x c u), 0, 0)) ?_ ?_ ?_ ?_ ?_ ?_ ?_ ?_ ?_ ?_ ?_ ?_ ?_
  · exact lw_Ho r t m y x c u s g
  · rfl
  · rfl
  · exact lw_Hs r t m y x c u s g
  · exact ⟨r, t, m, y, x, c, u, rfl, rfl, hp⟩
  · exact fe9_fault r t m y x c u
  · exact lw_Hl r t m y x c u
  · rfl
  · exact lw_Hm r t m y x c u s g r t m y x c u
  · exact hk
  · exact hj
  · rfl
  refine am_cyk (pre := pr10_fault) (f := fm10_fault) (a' := [.inr (.inl 0)]) (wc := (hm_w s)) (w' := (lw9 r t m y x c u ((fn10_fault s).2) g)) (r := (some (.inl ((fn10_fault s).1)), (hm_w ((fn10_fault s).2)), 0, 0)) ?_ ?_ ?_ ?_ ?_ ?_ ?_ ?_ ?_ ?_ ?_ ?_ ?_
  · exact lw_Mo r t m y x c u s g
  · rfl
  · rfl
  · exact lw_Ms r t m y x c u s g
  · exact ⟨s, rfl, rfl, hq⟩
  · exact fe10_fault s
  · exact lw_Ml ((fn10_fault s).2)
  · rfl
  · exact lw_Mm r t m y x c u s g ((fn10_fault s).2)
  · exact hk
  · exact hj
  · rfl
  refine am_ci (c := (fn9_fault r t m y x c u) = ((fn10_fault s).1)) he ?_
  exact hkt
set_option maxRecDepth 100000 in
set_option maxHeartbeats 4000000 in
theorem sl_hole {n : Nat} {f : Nat → Int32} {i : Int32} (r : qt6) (t : qt6) (m : qt2) (y : qt0) (x : qt5) (c : qt1) (u : qt6) (s : hs) (g : Nat → Int32) {j5 j6 : Option am_V} {k j : Nat} (hi : ¬ Int32.ofNat n - 2 < i) (hb0 : am_inb i n = true) (hb1 : am_inb (i + 1) n = true) (hx : f i.toNatClampNeg &&& 15 = 7) (hp : wp9_hole r t m y x c u (f (i + 1).toNatClampNeg)) (hq : wp10_hole s (f (i + 1).toNatClampNeg)) (he : (fn9_hole r t m y x c u (f (i + 1).toNatClampNeg)) = ((fn10_hole s (f (i + 1).toNatClampNeg)).1)) (hk : k ≤ 601024) (hj : j ≤ 7293034) : am_sg (am_mk (kbLaw n f kiLaw0) 601024 7293034 0) [23] (23, [some (.inr (.inr 75)), some (.inr (.inl 0)), some (.inr (.inl 27)), some (.inr (.inl 49)), some (.inl i), j5, j6], [], (lw9 r t m y x c u s g), k, j) (23, [some (.inr (.inr 75)), some (.inr (.inl 0)), some (.inr (.inl 27)), some (.inr (.inl 49)), some (.inl (i + 2)), j5, j6], [], (lw9 r t m y x c u ((fn10_hole s (f (i + 1).toNatClampNeg)).2) g), k, j) := by
  refine am_sg_of fun kt hkt => ?_
  refine am_cn (c := Int32.ofNat n - 2 < i) hi ?_
  refine am_ci (c := am_inb i n = true) hb0 ?_
  refine am_cn (c := (f i.toNatClampNeg &&& 15) = (0 : Int32)) (by rw [hx]; decide) ?_
  refine am_cn (c := (f i.toNatClampNeg &&& 15) = (1 : Int32)) (by rw [hx]; decide) ?_
  refine am_cn (c := (f i.toNatClampNeg &&& 15) = (2 : Int32)) (by rw [hx]; decide) ?_
  refine am_cn (c := (f i.toNatClampNeg &&& 15) = (3 : Int32)) (by rw [hx]; decide) ?_
  refine am_cn (c := (f i.toNatClampNeg &&& 15) = (4 : Int32)) (by rw [hx]; decide) ?_
  refine am_cn (c := (f i.toNatClampNeg &&& 15) = (5 : Int32)) (by rw [hx]; decide) ?_
  refine am_cn (c := (f i.toNatClampNeg &&& 15) = (6 : Int32)) (by rw [hx]; decide) ?_
  refine am_ci (c := (f i.toNatClampNeg &&& 15) = (7 : Int32)) hx ?_
  refine am_ci (c := am_inb (i + 1) n = true) hb1 ?_
  refine am_cyk (pre := pr9_hole) (f := fm9_hole) (a' := [.inr (.inl 0), .inl (f (i + 1).toNatClampNeg)]) (wc := (kw_H r t m y x c u)) (w' := (lw9 r t m y x c u s g)) (r := (some (.inl (fn9_hole r t m y x c u (f (i + 1).toNatClampNeg))), (kw_H r t m y x c u), 0, 0)) ?_ ?_ ?_ ?_ ?_ ?_ ?_ ?_ ?_ ?_ ?_ ?_ ?_
  · exact lw_Ho r t m y x c u s g
  · rfl
  · rfl
  · exact lw_Hs r t m y x c u s g
  · exact ⟨r, t, m, y, x, c, u, (f (i + 1).toNatClampNeg), rfl, rfl, hp⟩
  · exact fe9_hole r t m y x c u (f (i + 1).toNatClampNeg)
  · exact lw_Hl r t m y x c u
  · rfl
  · exact lw_Hm r t m y x c u s g r t m y x c u
  · exact hk
  · exact hj
  · rfl
  refine am_ci (c := am_inb (i + 1) n = true) hb1 ?_
  refine am_cyk (pre := pr10_hole) (f := fm10_hole) (a' := [.inr (.inl 0), .inl (f (i + 1).toNatClampNeg)]) (wc := (hm_w s)) (w' := (lw9 r t m y x c u ((fn10_hole s (f (i + 1).toNatClampNeg)).2) g)) (r := (some (.inl ((fn10_hole s (f (i + 1).toNatClampNeg)).1)), (hm_w ((fn10_hole s (f (i + 1).toNatClampNeg)).2)), 0, 0)) ?_ ?_ ?_ ?_ ?_ ?_ ?_ ?_ ?_ ?_ ?_ ?_ ?_
  · exact lw_Mo r t m y x c u s g
  · rfl
  · rfl
  · exact lw_Ms r t m y x c u s g
  · exact ⟨s, (f (i + 1).toNatClampNeg), rfl, rfl, hq⟩
  · exact fe10_hole s (f (i + 1).toNatClampNeg)
  · exact lw_Ml ((fn10_hole s (f (i + 1).toNatClampNeg)).2)
  · rfl
  · exact lw_Mm r t m y x c u s g ((fn10_hole s (f (i + 1).toNatClampNeg)).2)
  · exact hk
  · exact hj
  · rfl
  refine am_ci (c := (fn9_hole r t m y x c u (f (i + 1).toNatClampNeg)) = ((fn10_hole s (f (i + 1).toNatClampNeg)).1)) he ?_
  exact hkt
set_option maxRecDepth 100000 in
set_option maxHeartbeats 4000000 in
theorem sl_item {n : Nat} {f : Nat → Int32} {i : Int32} (r : qt6) (t : qt6) (m : qt2) (y : qt0) (x : qt5) (c : qt1) (u : qt6) (s : hs) (g : Nat → Int32) {j5 j6 : Option am_V} {k j : Nat} (hi : ¬ Int32.ofNat n - 2 < i) (hb0 : am_inb i n = true) (hb1 : am_inb (i + 1) n = true) (hx : f i.toNatClampNeg &&& 15 = 8) (hp : wp9_item r t m y x c u (f (i + 1).toNatClampNeg)) (hq : wp10_item s (f (i + 1).toNatClampNeg)) (hz : wp10_thrown ((fn10_item s (f (i + 1).toNatClampNeg)).2)) (he : (fn10_thrown ((fn10_item s (f (i + 1).toNatClampNeg)).2)) = 0) (hk : k ≤ 601024) (hj : j ≤ 7293034) : am_sg (am_mk (kbLaw n f kiLaw0) 601024 7293034 0) [339] (23, [some (.inr (.inr 75)), some (.inr (.inl 0)), some (.inr (.inl 27)), some (.inr (.inl 49)), some (.inl i), j5, j6], [], (lw9 r t m y x c u s g), k, j) (339, [some (.inr (.inr 75)), some (.inr (.inl 0)), some (.inr (.inl 27)), some (.inr (.inl 49)), some (.inl i), some (.inl 0), some (.inl ((fn10_item s (f (i + 1).toNatClampNeg)).1))], [.inl 0, .inr (.inl 49)], (lw9 ((fn9_item r t m y x c u (f (i + 1).toNatClampNeg)).2.1) t ((fn9_item r t m y x c u (f (i + 1).toNatClampNeg)).2.2) y x c u ((fn10_item s (f (i + 1).toNatClampNeg)).2) (upd g 0 ((fn9_item r t m y x c u (f (i + 1).toNatClampNeg)).1))), k, j) := by
  refine am_sg_of fun kt hkt => ?_
  refine am_cn (c := Int32.ofNat n - 2 < i) hi ?_
  refine am_ci (c := am_inb i n = true) hb0 ?_
  refine am_cn (c := (f i.toNatClampNeg &&& 15) = (0 : Int32)) (by rw [hx]; decide) ?_
  refine am_cn (c := (f i.toNatClampNeg &&& 15) = (1 : Int32)) (by rw [hx]; decide) ?_
  refine am_cn (c := (f i.toNatClampNeg &&& 15) = (2 : Int32)) (by rw [hx]; decide) ?_
  refine am_cn (c := (f i.toNatClampNeg &&& 15) = (3 : Int32)) (by rw [hx]; decide) ?_
  refine am_cn (c := (f i.toNatClampNeg &&& 15) = (4 : Int32)) (by rw [hx]; decide) ?_
  refine am_cn (c := (f i.toNatClampNeg &&& 15) = (5 : Int32)) (by rw [hx]; decide) ?_
  refine am_cn (c := (f i.toNatClampNeg &&& 15) = (6 : Int32)) (by rw [hx]; decide) ?_
  refine am_cn (c := (f i.toNatClampNeg &&& 15) = (7 : Int32)) (by rw [hx]; decide) ?_
  refine am_ci (c := (f i.toNatClampNeg &&& 15) = (8 : Int32)) hx ?_
  refine am_ci (c := am_inb (i + 1) n = true) hb1 ?_
  refine am_cyk (pre := prL_item) (f := fmL_item) (a' := [.inr (.inl 0), .inl (f (i + 1).toNatClampNeg), .inr (.inl 27)]) (wc := (kw_HO r t m y x c u g)) (w' := (lw9 ((fn9_item r t m y x c u (f (i + 1).toNatClampNeg)).2.1) t ((fn9_item r t m y x c u (f (i + 1).toNatClampNeg)).2.2) y x c u s (upd g 0 ((fn9_item r t m y x c u (f (i + 1).toNatClampNeg)).1)))) (r := (some (.inl 0), (kw_HO ((fn9_item r t m y x c u (f (i + 1).toNatClampNeg)).2.1) t ((fn9_item r t m y x c u (f (i + 1).toNatClampNeg)).2.2) y x c u (upd g 0 ((fn9_item r t m y x c u (f (i + 1).toNatClampNeg)).1))), 0, 0)) ?_ ?_ ?_ ?_ ?_ ?_ ?_ ?_ ?_ ?_ ?_ ?_ ?_
  · exact lw_Oo r t m y x c u s g
  · rfl
  · rfl
  · exact lw_Os r t m y x c u s g
  · exact ⟨r, t, m, y, x, c, u, g, (f (i + 1).toNatClampNeg), rfl, rfl, hp⟩
  · exact feL_item r t m y x c u g (f (i + 1).toNatClampNeg)
  · exact lw_Ol ((fn9_item r t m y x c u (f (i + 1).toNatClampNeg)).2.1) t ((fn9_item r t m y x c u (f (i + 1).toNatClampNeg)).2.2) y x c u (upd g 0 ((fn9_item r t m y x c u (f (i + 1).toNatClampNeg)).1))
  · rfl
  · exact lw_Om r t m y x c u s g ((fn9_item r t m y x c u (f (i + 1).toNatClampNeg)).2.1) t ((fn9_item r t m y x c u (f (i + 1).toNatClampNeg)).2.2) y x c u (upd g 0 ((fn9_item r t m y x c u (f (i + 1).toNatClampNeg)).1))
  · exact hk
  · exact hj
  · rfl
  refine am_ci (c := am_inb (i + 1) n = true) hb1 ?_
  refine am_cyk (pre := pr10_item) (f := fm10_item) (a' := [.inr (.inl 0), .inl (f (i + 1).toNatClampNeg)]) (wc := (hm_w s)) (w' := (lw9 ((fn9_item r t m y x c u (f (i + 1).toNatClampNeg)).2.1) t ((fn9_item r t m y x c u (f (i + 1).toNatClampNeg)).2.2) y x c u ((fn10_item s (f (i + 1).toNatClampNeg)).2) (upd g 0 ((fn9_item r t m y x c u (f (i + 1).toNatClampNeg)).1)))) (r := (some (.inl ((fn10_item s (f (i + 1).toNatClampNeg)).1)), (hm_w ((fn10_item s (f (i + 1).toNatClampNeg)).2)), 0, 0)) ?_ ?_ ?_ ?_ ?_ ?_ ?_ ?_ ?_ ?_ ?_ ?_ ?_
  · exact lw_Mo ((fn9_item r t m y x c u (f (i + 1).toNatClampNeg)).2.1) t ((fn9_item r t m y x c u (f (i + 1).toNatClampNeg)).2.2) y x c u s (upd g 0 ((fn9_item r t m y x c u (f (i + 1).toNatClampNeg)).1))
  · rfl
  · rfl
  · exact lw_Ms ((fn9_item r t m y x c u (f (i + 1).toNatClampNeg)).2.1) t ((fn9_item r t m y x c u (f (i + 1).toNatClampNeg)).2.2) y x c u s (upd g 0 ((fn9_item r t m y x c u (f (i + 1).toNatClampNeg)).1))
  · exact ⟨s, (f (i + 1).toNatClampNeg), rfl, rfl, hq⟩
  · exact fe10_item s (f (i + 1).toNatClampNeg)
  · exact lw_Ml ((fn10_item s (f (i + 1).toNatClampNeg)).2)
  · rfl
  · exact lw_Mm ((fn9_item r t m y x c u (f (i + 1).toNatClampNeg)).2.1) t ((fn9_item r t m y x c u (f (i + 1).toNatClampNeg)).2.2) y x c u s (upd g 0 ((fn9_item r t m y x c u (f (i + 1).toNatClampNeg)).1)) ((fn10_item s (f (i + 1).toNatClampNeg)).2)
  · exact hk
  · exact hj
  · rfl
  refine am_cyk (pre := pr10_thrown) (f := fm10_thrown) (a' := [.inr (.inl 0)]) (wc := (hm_w ((fn10_item s (f (i + 1).toNatClampNeg)).2))) (w' := (lw9 ((fn9_item r t m y x c u (f (i + 1).toNatClampNeg)).2.1) t ((fn9_item r t m y x c u (f (i + 1).toNatClampNeg)).2.2) y x c u ((fn10_item s (f (i + 1).toNatClampNeg)).2) (upd g 0 ((fn9_item r t m y x c u (f (i + 1).toNatClampNeg)).1)))) (r := (some (.inl (fn10_thrown ((fn10_item s (f (i + 1).toNatClampNeg)).2))), (hm_w ((fn10_item s (f (i + 1).toNatClampNeg)).2)), 0, 0)) ?_ ?_ ?_ ?_ ?_ ?_ ?_ ?_ ?_ ?_ ?_ ?_ ?_
  · exact lw_Mo ((fn9_item r t m y x c u (f (i + 1).toNatClampNeg)).2.1) t ((fn9_item r t m y x c u (f (i + 1).toNatClampNeg)).2.2) y x c u ((fn10_item s (f (i + 1).toNatClampNeg)).2) (upd g 0 ((fn9_item r t m y x c u (f (i + 1).toNatClampNeg)).1))
  · rfl
  · rfl
  · exact lw_Ms ((fn9_item r t m y x c u (f (i + 1).toNatClampNeg)).2.1) t ((fn9_item r t m y x c u (f (i + 1).toNatClampNeg)).2.2) y x c u ((fn10_item s (f (i + 1).toNatClampNeg)).2) (upd g 0 ((fn9_item r t m y x c u (f (i + 1).toNatClampNeg)).1))
  · exact ⟨((fn10_item s (f (i + 1).toNatClampNeg)).2), rfl, rfl, hz⟩
  · exact fe10_thrown ((fn10_item s (f (i + 1).toNatClampNeg)).2)
  · exact lw_Ml ((fn10_item s (f (i + 1).toNatClampNeg)).2)
  · rfl
  · exact lw_Mm ((fn9_item r t m y x c u (f (i + 1).toNatClampNeg)).2.1) t ((fn9_item r t m y x c u (f (i + 1).toNatClampNeg)).2.2) y x c u ((fn10_item s (f (i + 1).toNatClampNeg)).2) (upd g 0 ((fn9_item r t m y x c u (f (i + 1).toNatClampNeg)).1)) ((fn10_item s (f (i + 1).toNatClampNeg)).2)
  · exact hk
  · exact hj
  · rfl
  refine am_ci (c := (fn10_thrown ((fn10_item s (f (i + 1).toNatClampNeg)).2)) = 0) he ?_
  exact hkt
set_option maxRecDepth 100000 in
set_option maxHeartbeats 4000000 in
theorem sm_item {n : Nat} {f : Nat → Int32} {i b : Int32} {w : List am_C} {k j : Nat} : am_sg (am_mk (kbLaw n f kiLaw0) 601024 7293034 0) [23] (344, [some (.inr (.inr 75)), some (.inr (.inl 0)), some (.inr (.inl 27)), some (.inr (.inl 49)), some (.inl i), some (.inl 0), some (.inl b)], [.inl 0], w, k, j) (23, [some (.inr (.inr 75)), some (.inr (.inl 0)), some (.inr (.inl 27)), some (.inr (.inl 49)), some (.inl (i + 2)), some (.inl 0), some (.inl b)], [], w, k, j) := by
  refine am_sg_of fun kt hkt => ?_
  exact hkt
set_option maxRecDepth 100000 in
set_option maxHeartbeats 4000000 in
theorem sl_item_11 {n : Nat} {f : Nat → Int32} {i : Int32} (r : qt6) (t : qt6) (m : qt2) (y : qt0) (x : qt5) (c : qt1) (u : qt6) (s : hs) (g : Nat → Int32) {j5 j6 : Option am_V} {k j : Nat} (hi : ¬ Int32.ofNat n - 2 < i) (hb0 : am_inb i n = true) (hb1 : am_inb (i + 1) n = true) (hx : f i.toNatClampNeg &&& 15 = 8) (hp : wt9_item_11 r t m y x c u (f (i + 1).toNatClampNeg)) (hq : wp10_item s (f (i + 1).toNatClampNeg)) (hz : wp10_thrown ((fn10_item s (f (i + 1).toNatClampNeg)).2)) (he : (fn10_thrown ((fn10_item s (f (i + 1).toNatClampNeg)).2)) = 1) (hk1 : k + 1 ≤ 601024) (hj1 : j + 6 ≤ 7293034) : am_sg (am_mk (kbLaw n f kiLaw1) 601024 7293034 0) [23] (23, [some (.inr (.inr 75)), some (.inr (.inl 0)), some (.inr (.inl 27)), some (.inr (.inl 49)), some (.inl i), j5, j6], [], (lw9 r t m y x c u s g), k, j) (23, [some (.inr (.inr 75)), some (.inr (.inl 0)), some (.inr (.inl 27)), some (.inr (.inl 49)), some (.inl (i + 2)), some (.inl 1), some (.inl ((fn10_item s (f (i + 1).toNatClampNeg)).1))], [], (lw9 r t m y x c u ((fn10_item s (f (i + 1).toNatClampNeg)).2) g), k + 1, j + 6) := by
  refine am_sg_of fun kt hkt => ?_
  refine am_cn (c := Int32.ofNat n - 2 < i) hi ?_
  refine am_ci (c := am_inb i n = true) hb0 ?_
  refine am_cn (c := (f i.toNatClampNeg &&& 15) = (0 : Int32)) (by rw [hx]; decide) ?_
  refine am_cn (c := (f i.toNatClampNeg &&& 15) = (1 : Int32)) (by rw [hx]; decide) ?_
  refine am_cn (c := (f i.toNatClampNeg &&& 15) = (2 : Int32)) (by rw [hx]; decide) ?_
  refine am_cn (c := (f i.toNatClampNeg &&& 15) = (3 : Int32)) (by rw [hx]; decide) ?_
  refine am_cn (c := (f i.toNatClampNeg &&& 15) = (4 : Int32)) (by rw [hx]; decide) ?_
  refine am_cn (c := (f i.toNatClampNeg &&& 15) = (5 : Int32)) (by rw [hx]; decide) ?_
  refine am_cn (c := (f i.toNatClampNeg &&& 15) = (6 : Int32)) (by rw [hx]; decide) ?_
  refine am_cn (c := (f i.toNatClampNeg &&& 15) = (7 : Int32)) (by rw [hx]; decide) ?_
  refine am_ci (c := (f i.toNatClampNeg &&& 15) = (8 : Int32)) hx ?_
  refine am_ci (c := am_inb (i + 1) n = true) hb1 ?_
  refine am_cyk (pre := prL_item_11) (f := fmL_item_11) (a' := [.inr (.inl 0), .inl (f (i + 1).toNatClampNeg), .inr (.inl 27)]) (wc := (kw_HO r t m y x c u g)) (w' := (lw9 r t m y x c u s g)) (r := (some (.inl 1), (kw_HO r t m y x c u g), 1, 6)) ?_ ?_ ?_ ?_ ?_ ?_ ?_ ?_ ?_ ?_ ?_ ?_ ?_
  · exact lw_Oo r t m y x c u s g
  · rfl
  · rfl
  · exact lw_Os r t m y x c u s g
  · exact ⟨r, t, m, y, x, c, u, g, (f (i + 1).toNatClampNeg), rfl, rfl, hp⟩
  · exact feL_item_11 r t m y x c u g (f (i + 1).toNatClampNeg)
  · exact lw_Ol r t m y x c u g
  · rfl
  · exact lw_Om r t m y x c u s g r t m y x c u g
  · exact hk1
  · exact hj1
  · rfl
  refine am_ci (c := am_inb (i + 1) n = true) hb1 ?_
  refine am_cyk (pre := pr10_item) (f := fm10_item) (a' := [.inr (.inl 0), .inl (f (i + 1).toNatClampNeg)]) (wc := (hm_w s)) (w' := (lw9 r t m y x c u ((fn10_item s (f (i + 1).toNatClampNeg)).2) g)) (r := (some (.inl ((fn10_item s (f (i + 1).toNatClampNeg)).1)), (hm_w ((fn10_item s (f (i + 1).toNatClampNeg)).2)), 0, 0)) ?_ ?_ ?_ ?_ ?_ ?_ ?_ ?_ ?_ ?_ ?_ ?_ ?_
  · exact lw_Mo r t m y x c u s g
  · rfl
  · rfl
  · exact lw_Ms r t m y x c u s g
  · exact ⟨s, (f (i + 1).toNatClampNeg), rfl, rfl, hq⟩
  · exact fe10_item s (f (i + 1).toNatClampNeg)
  · exact lw_Ml ((fn10_item s (f (i + 1).toNatClampNeg)).2)
  · rfl
  · exact lw_Mm r t m y x c u s g ((fn10_item s (f (i + 1).toNatClampNeg)).2)
  · exact hk1
  · exact hj1
  · rfl
  refine am_cyk (pre := pr10_thrown) (f := fm10_thrown) (a' := [.inr (.inl 0)]) (wc := (hm_w ((fn10_item s (f (i + 1).toNatClampNeg)).2))) (w' := (lw9 r t m y x c u ((fn10_item s (f (i + 1).toNatClampNeg)).2) g)) (r := (some (.inl (fn10_thrown ((fn10_item s (f (i + 1).toNatClampNeg)).2))), (hm_w ((fn10_item s (f (i + 1).toNatClampNeg)).2)), 0, 0)) ?_ ?_ ?_ ?_ ?_ ?_ ?_ ?_ ?_ ?_ ?_ ?_ ?_
  · exact lw_Mo r t m y x c u ((fn10_item s (f (i + 1).toNatClampNeg)).2) g
  · rfl
  · rfl
  · exact lw_Ms r t m y x c u ((fn10_item s (f (i + 1).toNatClampNeg)).2) g
  · exact ⟨((fn10_item s (f (i + 1).toNatClampNeg)).2), rfl, rfl, hz⟩
  · exact fe10_thrown ((fn10_item s (f (i + 1).toNatClampNeg)).2)
  · exact lw_Ml ((fn10_item s (f (i + 1).toNatClampNeg)).2)
  · rfl
  · exact lw_Mm r t m y x c u ((fn10_item s (f (i + 1).toNatClampNeg)).2) g ((fn10_item s (f (i + 1).toNatClampNeg)).2)
  · exact hk1
  · exact hj1
  · rfl
  refine am_ci (c := (fn10_thrown ((fn10_item s (f (i + 1).toNatClampNeg)).2)) = 1) he ?_
  exact hkt
set_option maxRecDepth 100000 in
set_option maxHeartbeats 4000000 in
theorem sl_item_36 {n : Nat} {f : Nat → Int32} {i : Int32} (r : qt6) (t : qt6) (m : qt2) (y : qt0) (x : qt5) (c : qt1) (u : qt6) (s : hs) (g : Nat → Int32) {j5 j6 : Option am_V} {k j : Nat} (hi : ¬ Int32.ofNat n - 2 < i) (hb0 : am_inb i n = true) (hb1 : am_inb (i + 1) n = true) (hx : f i.toNatClampNeg &&& 15 = 8) (hp : wt9_item_36 r t m y x c u (f (i + 1).toNatClampNeg)) (hq : wp10_item s (f (i + 1).toNatClampNeg)) (hz : wp10_thrown ((fn10_item s (f (i + 1).toNatClampNeg)).2)) (he : (fn10_thrown ((fn10_item s (f (i + 1).toNatClampNeg)).2)) = 2) (hk1 : k + 1 ≤ 601024) (hj1 : j + 6 ≤ 7293034) : am_sg (am_mk (kbLaw n f kiLaw2) 601024 7293034 0) [23] (23, [some (.inr (.inr 75)), some (.inr (.inl 0)), some (.inr (.inl 27)), some (.inr (.inl 49)), some (.inl i), j5, j6], [], (lw9 r t m y x c u s g), k, j) (23, [some (.inr (.inr 75)), some (.inr (.inl 0)), some (.inr (.inl 27)), some (.inr (.inl 49)), some (.inl (i + 2)), some (.inl 2), some (.inl ((fn10_item s (f (i + 1).toNatClampNeg)).1))], [], (lw9 r t ((fn2_keep m r (f (i + 1).toNatClampNeg)).2) y x c u ((fn10_item s (f (i + 1).toNatClampNeg)).2) g), k + 1, j + 6) := by
  refine am_sg_of fun kt hkt => ?_
  refine am_cn (c := Int32.ofNat n - 2 < i) hi ?_
  refine am_ci (c := am_inb i n = true) hb0 ?_
  refine am_cn (c := (f i.toNatClampNeg &&& 15) = (0 : Int32)) (by rw [hx]; decide) ?_
  refine am_cn (c := (f i.toNatClampNeg &&& 15) = (1 : Int32)) (by rw [hx]; decide) ?_
  refine am_cn (c := (f i.toNatClampNeg &&& 15) = (2 : Int32)) (by rw [hx]; decide) ?_
  refine am_cn (c := (f i.toNatClampNeg &&& 15) = (3 : Int32)) (by rw [hx]; decide) ?_
  refine am_cn (c := (f i.toNatClampNeg &&& 15) = (4 : Int32)) (by rw [hx]; decide) ?_
  refine am_cn (c := (f i.toNatClampNeg &&& 15) = (5 : Int32)) (by rw [hx]; decide) ?_
  refine am_cn (c := (f i.toNatClampNeg &&& 15) = (6 : Int32)) (by rw [hx]; decide) ?_
  refine am_cn (c := (f i.toNatClampNeg &&& 15) = (7 : Int32)) (by rw [hx]; decide) ?_
  refine am_ci (c := (f i.toNatClampNeg &&& 15) = (8 : Int32)) hx ?_
  refine am_ci (c := am_inb (i + 1) n = true) hb1 ?_
  refine am_cyk (pre := prL_item_36) (f := fmL_item_36) (a' := [.inr (.inl 0), .inl (f (i + 1).toNatClampNeg), .inr (.inl 27)]) (wc := (kw_HO r t m y x c u g)) (w' := (lw9 r t ((fn2_keep m r (f (i + 1).toNatClampNeg)).2) y x c u s g)) (r := (some (.inl 2), (kw_HO r t ((fn2_keep m r (f (i + 1).toNatClampNeg)).2) y x c u g), 1, 6)) ?_ ?_ ?_ ?_ ?_ ?_ ?_ ?_ ?_ ?_ ?_ ?_ ?_
  · exact lw_Oo r t m y x c u s g
  · rfl
  · rfl
  · exact lw_Os r t m y x c u s g
  · exact ⟨r, t, m, y, x, c, u, g, (f (i + 1).toNatClampNeg), rfl, rfl, hp⟩
  · exact feL_item_36 r t m y x c u g (f (i + 1).toNatClampNeg)
  · exact lw_Ol r t ((fn2_keep m r (f (i + 1).toNatClampNeg)).2) y x c u g
  · rfl
  · exact lw_Om r t m y x c u s g r t ((fn2_keep m r (f (i + 1).toNatClampNeg)).2) y x c u g
  · exact hk1
  · exact hj1
  · rfl
  refine am_ci (c := am_inb (i + 1) n = true) hb1 ?_
  refine am_cyk (pre := pr10_item) (f := fm10_item) (a' := [.inr (.inl 0), .inl (f (i + 1).toNatClampNeg)]) (wc := (hm_w s)) (w' := (lw9 r t ((fn2_keep m r (f (i + 1).toNatClampNeg)).2) y x c u ((fn10_item s (f (i + 1).toNatClampNeg)).2) g)) (r := (some (.inl ((fn10_item s (f (i + 1).toNatClampNeg)).1)), (hm_w ((fn10_item s (f (i + 1).toNatClampNeg)).2)), 0, 0)) ?_ ?_ ?_ ?_ ?_ ?_ ?_ ?_ ?_ ?_ ?_ ?_ ?_
  · exact lw_Mo r t ((fn2_keep m r (f (i + 1).toNatClampNeg)).2) y x c u s g
  · rfl
  · rfl
  · exact lw_Ms r t ((fn2_keep m r (f (i + 1).toNatClampNeg)).2) y x c u s g
  · exact ⟨s, (f (i + 1).toNatClampNeg), rfl, rfl, hq⟩
  · exact fe10_item s (f (i + 1).toNatClampNeg)
  · exact lw_Ml ((fn10_item s (f (i + 1).toNatClampNeg)).2)
  · rfl
  · exact lw_Mm r t ((fn2_keep m r (f (i + 1).toNatClampNeg)).2) y x c u s g ((fn10_item s (f (i + 1).toNatClampNeg)).2)
  · exact hk1
  · exact hj1
  · rfl
  refine am_cyk (pre := pr10_thrown) (f := fm10_thrown) (a' := [.inr (.inl 0)]) (wc := (hm_w ((fn10_item s (f (i + 1).toNatClampNeg)).2))) (w' := (lw9 r t ((fn2_keep m r (f (i + 1).toNatClampNeg)).2) y x c u ((fn10_item s (f (i + 1).toNatClampNeg)).2) g)) (r := (some (.inl (fn10_thrown ((fn10_item s (f (i + 1).toNatClampNeg)).2))), (hm_w ((fn10_item s (f (i + 1).toNatClampNeg)).2)), 0, 0)) ?_ ?_ ?_ ?_ ?_ ?_ ?_ ?_ ?_ ?_ ?_ ?_ ?_
  · exact lw_Mo r t ((fn2_keep m r (f (i + 1).toNatClampNeg)).2) y x c u ((fn10_item s (f (i + 1).toNatClampNeg)).2) g
  · rfl
  · rfl
  · exact lw_Ms r t ((fn2_keep m r (f (i + 1).toNatClampNeg)).2) y x c u ((fn10_item s (f (i + 1).toNatClampNeg)).2) g
  · exact ⟨((fn10_item s (f (i + 1).toNatClampNeg)).2), rfl, rfl, hz⟩
  · exact fe10_thrown ((fn10_item s (f (i + 1).toNatClampNeg)).2)
  · exact lw_Ml ((fn10_item s (f (i + 1).toNatClampNeg)).2)
  · rfl
  · exact lw_Mm r t ((fn2_keep m r (f (i + 1).toNatClampNeg)).2) y x c u ((fn10_item s (f (i + 1).toNatClampNeg)).2) g ((fn10_item s (f (i + 1).toNatClampNeg)).2)
  · exact hk1
  · exact hj1
  · rfl
  refine am_ci (c := (fn10_thrown ((fn10_item s (f (i + 1).toNatClampNeg)).2)) = 2) he ?_
  exact hkt
set_option maxRecDepth 100000 in
set_option maxHeartbeats 4000000 in
theorem sl_forget {n : Nat} {f : Nat → Int32} {i : Int32} (r : qt6) (t : qt6) (m : qt2) (y : qt0) (x : qt5) (c : qt1) (u : qt6) (s : hs) (g : Nat → Int32) {j5 j6 : Option am_V} {k j : Nat} (hi : ¬ Int32.ofNat n - 2 < i) (hb0 : am_inb i n = true) (hb1 : am_inb (i + 1) n = true) (hx : f i.toNatClampNeg &&& 15 = 9) (hp : wp9_forget r t m y x c u (f (i + 1).toNatClampNeg)) (hq : wp10_forget s (f (i + 1).toNatClampNeg)) (hz : wp10_thrown ((fn10_forget s (f (i + 1).toNatClampNeg)).2)) (he : (fn10_thrown ((fn10_forget s (f (i + 1).toNatClampNeg)).2)) = 0) (hk : k ≤ 601024) (hj : j ≤ 7293034) : am_sg (am_mk (kbLaw n f kiLaw0) 601024 7293034 0) [395] (23, [some (.inr (.inr 75)), some (.inr (.inl 0)), some (.inr (.inl 27)), some (.inr (.inl 49)), some (.inl i), j5, j6], [], (lw9 r t m y x c u s g), k, j) (395, [some (.inr (.inr 75)), some (.inr (.inl 0)), some (.inr (.inl 27)), some (.inr (.inl 49)), some (.inl i), some (.inl 0), some (.inl ((fn10_forget s (f (i + 1).toNatClampNeg)).1))], [.inl 0, .inr (.inl 49)], (lw9 r t ((fn9_forget r t m y x c u (f (i + 1).toNatClampNeg)).2) y x c u ((fn10_forget s (f (i + 1).toNatClampNeg)).2) (upd g 0 ((fn9_forget r t m y x c u (f (i + 1).toNatClampNeg)).1))), k, j) := by
  refine am_sg_of fun kt hkt => ?_
  refine am_cn (c := Int32.ofNat n - 2 < i) hi ?_
  refine am_ci (c := am_inb i n = true) hb0 ?_
  refine am_cn (c := (f i.toNatClampNeg &&& 15) = (0 : Int32)) (by rw [hx]; decide) ?_
  refine am_cn (c := (f i.toNatClampNeg &&& 15) = (1 : Int32)) (by rw [hx]; decide) ?_
  refine am_cn (c := (f i.toNatClampNeg &&& 15) = (2 : Int32)) (by rw [hx]; decide) ?_
  refine am_cn (c := (f i.toNatClampNeg &&& 15) = (3 : Int32)) (by rw [hx]; decide) ?_
  refine am_cn (c := (f i.toNatClampNeg &&& 15) = (4 : Int32)) (by rw [hx]; decide) ?_
  refine am_cn (c := (f i.toNatClampNeg &&& 15) = (5 : Int32)) (by rw [hx]; decide) ?_
  refine am_cn (c := (f i.toNatClampNeg &&& 15) = (6 : Int32)) (by rw [hx]; decide) ?_
  refine am_cn (c := (f i.toNatClampNeg &&& 15) = (7 : Int32)) (by rw [hx]; decide) ?_
  refine am_cn (c := (f i.toNatClampNeg &&& 15) = (8 : Int32)) (by rw [hx]; decide) ?_
  refine am_ci (c := (f i.toNatClampNeg &&& 15) = (9 : Int32)) hx ?_
  refine am_ci (c := am_inb (i + 1) n = true) hb1 ?_
  refine am_cyk (pre := prL_forget) (f := fmL_forget) (a' := [.inr (.inl 0), .inl (f (i + 1).toNatClampNeg), .inr (.inl 27)]) (wc := (kw_HO r t m y x c u g)) (w' := (lw9 r t ((fn9_forget r t m y x c u (f (i + 1).toNatClampNeg)).2) y x c u s (upd g 0 ((fn9_forget r t m y x c u (f (i + 1).toNatClampNeg)).1)))) (r := (some (.inl 0), (kw_HO r t ((fn9_forget r t m y x c u (f (i + 1).toNatClampNeg)).2) y x c u (upd g 0 ((fn9_forget r t m y x c u (f (i + 1).toNatClampNeg)).1))), 0, 0)) ?_ ?_ ?_ ?_ ?_ ?_ ?_ ?_ ?_ ?_ ?_ ?_ ?_
  · exact lw_Oo r t m y x c u s g
  · rfl
  · rfl
  · exact lw_Os r t m y x c u s g
  · exact ⟨r, t, m, y, x, c, u, g, (f (i + 1).toNatClampNeg), rfl, rfl, hp⟩
  · exact feL_forget r t m y x c u g (f (i + 1).toNatClampNeg)
  · exact lw_Ol r t ((fn9_forget r t m y x c u (f (i + 1).toNatClampNeg)).2) y x c u (upd g 0 ((fn9_forget r t m y x c u (f (i + 1).toNatClampNeg)).1))
  · rfl
  · exact lw_Om r t m y x c u s g r t ((fn9_forget r t m y x c u (f (i + 1).toNatClampNeg)).2) y x c u (upd g 0 ((fn9_forget r t m y x c u (f (i + 1).toNatClampNeg)).1))
  · exact hk
  · exact hj
  · rfl
  refine am_ci (c := am_inb (i + 1) n = true) hb1 ?_
  refine am_cyk (pre := pr10_forget) (f := fm10_forget) (a' := [.inr (.inl 0), .inl (f (i + 1).toNatClampNeg)]) (wc := (hm_w s)) (w' := (lw9 r t ((fn9_forget r t m y x c u (f (i + 1).toNatClampNeg)).2) y x c u ((fn10_forget s (f (i + 1).toNatClampNeg)).2) (upd g 0 ((fn9_forget r t m y x c u (f (i + 1).toNatClampNeg)).1)))) (r := (some (.inl ((fn10_forget s (f (i + 1).toNatClampNeg)).1)), (hm_w ((fn10_forget s (f (i + 1).toNatClampNeg)).2)), 0, 0)) ?_ ?_ ?_ ?_ ?_ ?_ ?_ ?_ ?_ ?_ ?_ ?_ ?_
  · exact lw_Mo r t ((fn9_forget r t m y x c u (f (i + 1).toNatClampNeg)).2) y x c u s (upd g 0 ((fn9_forget r t m y x c u (f (i + 1).toNatClampNeg)).1))
  · rfl
  · rfl
  · exact lw_Ms r t ((fn9_forget r t m y x c u (f (i + 1).toNatClampNeg)).2) y x c u s (upd g 0 ((fn9_forget r t m y x c u (f (i + 1).toNatClampNeg)).1))
  · exact ⟨s, (f (i + 1).toNatClampNeg), rfl, rfl, hq⟩
  · exact fe10_forget s (f (i + 1).toNatClampNeg)
  · exact lw_Ml ((fn10_forget s (f (i + 1).toNatClampNeg)).2)
  · rfl
  · exact lw_Mm r t ((fn9_forget r t m y x c u (f (i + 1).toNatClampNeg)).2) y x c u s (upd g 0 ((fn9_forget r t m y x c u (f (i + 1).toNatClampNeg)).1)) ((fn10_forget s (f (i + 1).toNatClampNeg)).2)
  · exact hk
  · exact hj
  · rfl
  refine am_cyk (pre := pr10_thrown) (f := fm10_thrown) (a' := [.inr (.inl 0)]) (wc := (hm_w ((fn10_forget s (f (i + 1).toNatClampNeg)).2))) (w' := (lw9 r t ((fn9_forget r t m y x c u (f (i + 1).toNatClampNeg)).2) y x c u ((fn10_forget s (f (i + 1).toNatClampNeg)).2) (upd g 0 ((fn9_forget r t m y x c u (f (i + 1).toNatClampNeg)).1)))) (r := (some (.inl (fn10_thrown ((fn10_forget s (f (i + 1).toNatClampNeg)).2))), (hm_w ((fn10_forget s (f (i + 1).toNatClampNeg)).2)), 0, 0)) ?_ ?_ ?_ ?_ ?_ ?_ ?_ ?_ ?_ ?_ ?_ ?_ ?_
  · exact lw_Mo r t ((fn9_forget r t m y x c u (f (i + 1).toNatClampNeg)).2) y x c u ((fn10_forget s (f (i + 1).toNatClampNeg)).2) (upd g 0 ((fn9_forget r t m y x c u (f (i + 1).toNatClampNeg)).1))
  · rfl
  · rfl
  · exact lw_Ms r t ((fn9_forget r t m y x c u (f (i + 1).toNatClampNeg)).2) y x c u ((fn10_forget s (f (i + 1).toNatClampNeg)).2) (upd g 0 ((fn9_forget r t m y x c u (f (i + 1).toNatClampNeg)).1))
  · exact ⟨((fn10_forget s (f (i + 1).toNatClampNeg)).2), rfl, rfl, hz⟩
  · exact fe10_thrown ((fn10_forget s (f (i + 1).toNatClampNeg)).2)
  · exact lw_Ml ((fn10_forget s (f (i + 1).toNatClampNeg)).2)
  · rfl
  · exact lw_Mm r t ((fn9_forget r t m y x c u (f (i + 1).toNatClampNeg)).2) y x c u ((fn10_forget s (f (i + 1).toNatClampNeg)).2) (upd g 0 ((fn9_forget r t m y x c u (f (i + 1).toNatClampNeg)).1)) ((fn10_forget s (f (i + 1).toNatClampNeg)).2)
  · exact hk
  · exact hj
  · rfl
  refine am_ci (c := (fn10_thrown ((fn10_forget s (f (i + 1).toNatClampNeg)).2)) = 0) he ?_
  exact hkt
set_option maxRecDepth 100000 in
set_option maxHeartbeats 4000000 in
theorem sm_forget {n : Nat} {f : Nat → Int32} {i b : Int32} {w : List am_C} {k j : Nat} : am_sg (am_mk (kbLaw n f kiLaw0) 601024 7293034 0) [23] (400, [some (.inr (.inr 75)), some (.inr (.inl 0)), some (.inr (.inl 27)), some (.inr (.inl 49)), some (.inl i), some (.inl 0), some (.inl b)], [.inl 0], w, k, j) (23, [some (.inr (.inr 75)), some (.inr (.inl 0)), some (.inr (.inl 27)), some (.inr (.inl 49)), some (.inl (i + 2)), some (.inl 0), some (.inl b)], [], w, k, j) := by
  refine am_sg_of fun kt hkt => ?_
  exact hkt
set_option maxRecDepth 100000 in
set_option maxHeartbeats 4000000 in
theorem sl_forget_11 {n : Nat} {f : Nat → Int32} {i : Int32} (r : qt6) (t : qt6) (m : qt2) (y : qt0) (x : qt5) (c : qt1) (u : qt6) (s : hs) (g : Nat → Int32) {j5 j6 : Option am_V} {k j : Nat} (hi : ¬ Int32.ofNat n - 2 < i) (hb0 : am_inb i n = true) (hb1 : am_inb (i + 1) n = true) (hx : f i.toNatClampNeg &&& 15 = 9) (hp : wt9_forget_11 r t m y x c u (f (i + 1).toNatClampNeg)) (hq : wp10_forget s (f (i + 1).toNatClampNeg)) (hz : wp10_thrown ((fn10_forget s (f (i + 1).toNatClampNeg)).2)) (he : (fn10_thrown ((fn10_forget s (f (i + 1).toNatClampNeg)).2)) = 1) (hk1 : k + 1 ≤ 601024) (hj1 : j + 6 ≤ 7293034) : am_sg (am_mk (kbLaw n f kiLaw1) 601024 7293034 0) [23] (23, [some (.inr (.inr 75)), some (.inr (.inl 0)), some (.inr (.inl 27)), some (.inr (.inl 49)), some (.inl i), j5, j6], [], (lw9 r t m y x c u s g), k, j) (23, [some (.inr (.inr 75)), some (.inr (.inl 0)), some (.inr (.inl 27)), some (.inr (.inl 49)), some (.inl (i + 2)), some (.inl 1), some (.inl ((fn10_forget s (f (i + 1).toNatClampNeg)).1))], [], (lw9 r t m y x c u ((fn10_forget s (f (i + 1).toNatClampNeg)).2) g), k + 1, j + 6) := by
  refine am_sg_of fun kt hkt => ?_
  refine am_cn (c := Int32.ofNat n - 2 < i) hi ?_
  refine am_ci (c := am_inb i n = true) hb0 ?_
  refine am_cn (c := (f i.toNatClampNeg &&& 15) = (0 : Int32)) (by rw [hx]; decide) ?_
  refine am_cn (c := (f i.toNatClampNeg &&& 15) = (1 : Int32)) (by rw [hx]; decide) ?_
  refine am_cn (c := (f i.toNatClampNeg &&& 15) = (2 : Int32)) (by rw [hx]; decide) ?_
  refine am_cn (c := (f i.toNatClampNeg &&& 15) = (3 : Int32)) (by rw [hx]; decide) ?_
  refine am_cn (c := (f i.toNatClampNeg &&& 15) = (4 : Int32)) (by rw [hx]; decide) ?_
  refine am_cn (c := (f i.toNatClampNeg &&& 15) = (5 : Int32)) (by rw [hx]; decide) ?_
  refine am_cn (c := (f i.toNatClampNeg &&& 15) = (6 : Int32)) (by rw [hx]; decide) ?_
  refine am_cn (c := (f i.toNatClampNeg &&& 15) = (7 : Int32)) (by rw [hx]; decide) ?_
  refine am_cn (c := (f i.toNatClampNeg &&& 15) = (8 : Int32)) (by rw [hx]; decide) ?_
  refine am_ci (c := (f i.toNatClampNeg &&& 15) = (9 : Int32)) hx ?_
  refine am_ci (c := am_inb (i + 1) n = true) hb1 ?_
  refine am_cyk (pre := prL_forget_11) (f := fmL_forget_11) (a' := [.inr (.inl 0), .inl (f (i + 1).toNatClampNeg), .inr (.inl 27)]) (wc := (kw_HO r t m y x c u g)) (w' := (lw9 r t m y x c u s g)) (r := (some (.inl 1), (kw_HO r t m y x c u g), 1, 6)) ?_ ?_ ?_ ?_ ?_ ?_ ?_ ?_ ?_ ?_ ?_ ?_ ?_
  · exact lw_Oo r t m y x c u s g
  · rfl
  · rfl
  · exact lw_Os r t m y x c u s g
  · exact ⟨r, t, m, y, x, c, u, g, (f (i + 1).toNatClampNeg), rfl, rfl, hp⟩
  · exact feL_forget_11 r t m y x c u g (f (i + 1).toNatClampNeg)
  · exact lw_Ol r t m y x c u g
  · rfl
  · exact lw_Om r t m y x c u s g r t m y x c u g
  · exact hk1
  · exact hj1
  · rfl
  refine am_ci (c := am_inb (i + 1) n = true) hb1 ?_
  refine am_cyk (pre := pr10_forget) (f := fm10_forget) (a' := [.inr (.inl 0), .inl (f (i + 1).toNatClampNeg)]) (wc := (hm_w s)) (w' := (lw9 r t m y x c u ((fn10_forget s (f (i + 1).toNatClampNeg)).2) g)) (r := (some (.inl ((fn10_forget s (f (i + 1).toNatClampNeg)).1)), (hm_w ((fn10_forget s (f (i + 1).toNatClampNeg)).2)), 0, 0)) ?_ ?_ ?_ ?_ ?_ ?_ ?_ ?_ ?_ ?_ ?_ ?_ ?_
  · exact lw_Mo r t m y x c u s g
  · rfl
  · rfl
  · exact lw_Ms r t m y x c u s g
  · exact ⟨s, (f (i + 1).toNatClampNeg), rfl, rfl, hq⟩
  · exact fe10_forget s (f (i + 1).toNatClampNeg)
  · exact lw_Ml ((fn10_forget s (f (i + 1).toNatClampNeg)).2)
  · rfl
  · exact lw_Mm r t m y x c u s g ((fn10_forget s (f (i + 1).toNatClampNeg)).2)
  · exact hk1
  · exact hj1
  · rfl
  refine am_cyk (pre := pr10_thrown) (f := fm10_thrown) (a' := [.inr (.inl 0)]) (wc := (hm_w ((fn10_forget s (f (i + 1).toNatClampNeg)).2))) (w' := (lw9 r t m y x c u ((fn10_forget s (f (i + 1).toNatClampNeg)).2) g)) (r := (some (.inl (fn10_thrown ((fn10_forget s (f (i + 1).toNatClampNeg)).2))), (hm_w ((fn10_forget s (f (i + 1).toNatClampNeg)).2)), 0, 0)) ?_ ?_ ?_ ?_ ?_ ?_ ?_ ?_ ?_ ?_ ?_ ?_ ?_
  · exact lw_Mo r t m y x c u ((fn10_forget s (f (i + 1).toNatClampNeg)).2) g
  · rfl
  · rfl
  · exact lw_Ms r t m y x c u ((fn10_forget s (f (i + 1).toNatClampNeg)).2) g
  · exact ⟨((fn10_forget s (f (i + 1).toNatClampNeg)).2), rfl, rfl, hz⟩
  · exact fe10_thrown ((fn10_forget s (f (i + 1).toNatClampNeg)).2)
  · exact lw_Ml ((fn10_forget s (f (i + 1).toNatClampNeg)).2)
  · rfl
  · exact lw_Mm r t m y x c u ((fn10_forget s (f (i + 1).toNatClampNeg)).2) g ((fn10_forget s (f (i + 1).toNatClampNeg)).2)
  · exact hk1
  · exact hj1
  · rfl
  refine am_ci (c := (fn10_thrown ((fn10_forget s (f (i + 1).toNatClampNeg)).2)) = 1) he ?_
  exact hkt
set_option maxRecDepth 100000 in
set_option maxHeartbeats 4000000 in
theorem sl_write {n : Nat} {f : Nat → Int32} {i : Int32} (r : qt6) (t : qt6) (m : qt2) (y : qt0) (x : qt5) (c : qt1) (u : qt6) (s : hs) (g : Nat → Int32) {j5 j6 : Option am_V} {k j : Nat} (hi : ¬ Int32.ofNat n - 2 < i) (hb0 : am_inb i n = true) (hx : f i.toNatClampNeg &&& 15 = 10) (hp : wp9_write r t m y x c u) (hq : wp10_write s) (hz : wp10_thrown ((fn10_write s).2)) (he : (fn10_thrown ((fn10_write s).2)) = 0) (hk : k ≤ 601024) (hj : j ≤ 7293034) : am_sg (am_mk (kbLaw n f kiLaw0) 601024 7293034 0) [439] (23, [some (.inr (.inr 75)), some (.inr (.inl 0)), some (.inr (.inl 27)), some (.inr (.inl 49)), some (.inl i), j5, j6], [], (lw9 r t m y x c u s g), k, j) (439, [some (.inr (.inr 75)), some (.inr (.inl 0)), some (.inr (.inl 27)), some (.inr (.inl 49)), some (.inl i), some (.inl 0), some (.inl ((fn10_write s).1))], [.inl 0, .inr (.inl 49)], (lw9 r t ((fn9_write r t m y x c u).2.1) y x c ((fn9_write r t m y x c u).2.2) ((fn10_write s).2) (upd g 0 ((fn9_write r t m y x c u).1))), k, j) := by
  refine am_sg_of fun kt hkt => ?_
  refine am_cn (c := Int32.ofNat n - 2 < i) hi ?_
  refine am_ci (c := am_inb i n = true) hb0 ?_
  refine am_cn (c := (f i.toNatClampNeg &&& 15) = (0 : Int32)) (by rw [hx]; decide) ?_
  refine am_cn (c := (f i.toNatClampNeg &&& 15) = (1 : Int32)) (by rw [hx]; decide) ?_
  refine am_cn (c := (f i.toNatClampNeg &&& 15) = (2 : Int32)) (by rw [hx]; decide) ?_
  refine am_cn (c := (f i.toNatClampNeg &&& 15) = (3 : Int32)) (by rw [hx]; decide) ?_
  refine am_cn (c := (f i.toNatClampNeg &&& 15) = (4 : Int32)) (by rw [hx]; decide) ?_
  refine am_cn (c := (f i.toNatClampNeg &&& 15) = (5 : Int32)) (by rw [hx]; decide) ?_
  refine am_cn (c := (f i.toNatClampNeg &&& 15) = (6 : Int32)) (by rw [hx]; decide) ?_
  refine am_cn (c := (f i.toNatClampNeg &&& 15) = (7 : Int32)) (by rw [hx]; decide) ?_
  refine am_cn (c := (f i.toNatClampNeg &&& 15) = (8 : Int32)) (by rw [hx]; decide) ?_
  refine am_cn (c := (f i.toNatClampNeg &&& 15) = (9 : Int32)) (by rw [hx]; decide) ?_
  refine am_ci (c := (f i.toNatClampNeg &&& 15) = (10 : Int32)) hx ?_
  refine am_cyk (pre := prL_write) (f := fmL_write) (a' := [.inr (.inl 0), .inr (.inl 27)]) (wc := (kw_HO r t m y x c u g)) (w' := (lw9 r t ((fn9_write r t m y x c u).2.1) y x c ((fn9_write r t m y x c u).2.2) s (upd g 0 ((fn9_write r t m y x c u).1)))) (r := (some (.inl 0), (kw_HO r t ((fn9_write r t m y x c u).2.1) y x c ((fn9_write r t m y x c u).2.2) (upd g 0 ((fn9_write r t m y x c u).1))), 0, 0)) ?_ ?_ ?_ ?_ ?_ ?_ ?_ ?_ ?_ ?_ ?_ ?_ ?_
  · exact lw_Oo r t m y x c u s g
  · rfl
  · rfl
  · exact lw_Os r t m y x c u s g
  · exact ⟨r, t, m, y, x, c, u, g, rfl, rfl, hp⟩
  · exact feL_write r t m y x c u g
  · exact lw_Ol r t ((fn9_write r t m y x c u).2.1) y x c ((fn9_write r t m y x c u).2.2) (upd g 0 ((fn9_write r t m y x c u).1))
  · rfl
  · exact lw_Om r t m y x c u s g r t ((fn9_write r t m y x c u).2.1) y x c ((fn9_write r t m y x c u).2.2) (upd g 0 ((fn9_write r t m y x c u).1))
  · exact hk
  · exact hj
  · rfl
  refine am_cyk (pre := pr10_write) (f := fm10_write) (a' := [.inr (.inl 0)]) (wc := (hm_w s)) (w' := (lw9 r t ((fn9_write r t m y x c u).2.1) y x c ((fn9_write r t m y x c u).2.2) ((fn10_write s).2) (upd g 0 ((fn9_write r t m y x c u).1)))) (r := (some (.inl ((fn10_write s).1)), (hm_w ((fn10_write s).2)), 0, 0)) ?_ ?_ ?_ ?_ ?_ ?_ ?_ ?_ ?_ ?_ ?_ ?_ ?_
  · exact lw_Mo r t ((fn9_write r t m y x c u).2.1) y x c ((fn9_write r t m y x c u).2.2) s (upd g 0 ((fn9_write r t m y x c u).1))
  · rfl
  · rfl
  · exact lw_Ms r t ((fn9_write r t m y x c u).2.1) y x c ((fn9_write r t m y x c u).2.2) s (upd g 0 ((fn9_write r t m y x c u).1))
  · exact ⟨s, rfl, rfl, hq⟩
  · exact fe10_write s
  · exact lw_Ml ((fn10_write s).2)
  · rfl
  · exact lw_Mm r t ((fn9_write r t m y x c u).2.1) y x c ((fn9_write r t m y x c u).2.2) s (upd g 0 ((fn9_write r t m y x c u).1)) ((fn10_write s).2)
  · exact hk
  · exact hj
  · rfl
  refine am_cyk (pre := pr10_thrown) (f := fm10_thrown) (a' := [.inr (.inl 0)]) (wc := (hm_w ((fn10_write s).2))) (w' := (lw9 r t ((fn9_write r t m y x c u).2.1) y x c ((fn9_write r t m y x c u).2.2) ((fn10_write s).2) (upd g 0 ((fn9_write r t m y x c u).1)))) (r := (some (.inl (fn10_thrown ((fn10_write s).2))), (hm_w ((fn10_write s).2)), 0, 0)) ?_ ?_ ?_ ?_ ?_ ?_ ?_ ?_ ?_ ?_ ?_ ?_ ?_
  · exact lw_Mo r t ((fn9_write r t m y x c u).2.1) y x c ((fn9_write r t m y x c u).2.2) ((fn10_write s).2) (upd g 0 ((fn9_write r t m y x c u).1))
  · rfl
  · rfl
  · exact lw_Ms r t ((fn9_write r t m y x c u).2.1) y x c ((fn9_write r t m y x c u).2.2) ((fn10_write s).2) (upd g 0 ((fn9_write r t m y x c u).1))
  · exact ⟨((fn10_write s).2), rfl, rfl, hz⟩
  · exact fe10_thrown ((fn10_write s).2)
  · exact lw_Ml ((fn10_write s).2)
  · rfl
  · exact lw_Mm r t ((fn9_write r t m y x c u).2.1) y x c ((fn9_write r t m y x c u).2.2) ((fn10_write s).2) (upd g 0 ((fn9_write r t m y x c u).1)) ((fn10_write s).2)
  · exact hk
  · exact hj
  · rfl
  refine am_ci (c := (fn10_thrown ((fn10_write s).2)) = 0) he ?_
  exact hkt
set_option maxRecDepth 100000 in
set_option maxHeartbeats 4000000 in
theorem sm_write {n : Nat} {f : Nat → Int32} {i b : Int32} {w : List am_C} {k j : Nat} : am_sg (am_mk (kbLaw n f kiLaw0) 601024 7293034 0) [23] (444, [some (.inr (.inr 75)), some (.inr (.inl 0)), some (.inr (.inl 27)), some (.inr (.inl 49)), some (.inl i), some (.inl 0), some (.inl b)], [.inl 0], w, k, j) (23, [some (.inr (.inr 75)), some (.inr (.inl 0)), some (.inr (.inl 27)), some (.inr (.inl 49)), some (.inl (i + 2)), some (.inl 0), some (.inl b)], [], w, k, j) := by
  refine am_sg_of fun kt hkt => ?_
  exact hkt
set_option maxRecDepth 100000 in
set_option maxHeartbeats 4000000 in
theorem sl_write_10 {n : Nat} {f : Nat → Int32} {i : Int32} (r : qt6) (t : qt6) (m : qt2) (y : qt0) (x : qt5) (c : qt1) (u : qt6) (s : hs) (g : Nat → Int32) {j5 j6 : Option am_V} {k j : Nat} (hi : ¬ Int32.ofNat n - 2 < i) (hb0 : am_inb i n = true) (hx : f i.toNatClampNeg &&& 15 = 10) (hp : wt9_write_10 r t m y x c u) (hq : wp10_write s) (hz : wp10_thrown ((fn10_write s).2)) (he : (fn10_thrown ((fn10_write s).2)) = 1) (hk1 : k + 1 ≤ 601024) (hj1 : j + 6 ≤ 7293034) : am_sg (am_mk (kbLaw n f kiLaw1) 601024 7293034 0) [23] (23, [some (.inr (.inr 75)), some (.inr (.inl 0)), some (.inr (.inl 27)), some (.inr (.inl 49)), some (.inl i), j5, j6], [], (lw9 r t m y x c u s g), k, j) (23, [some (.inr (.inr 75)), some (.inr (.inl 0)), some (.inr (.inl 27)), some (.inr (.inl 49)), some (.inl (i + 2)), some (.inl 1), some (.inl ((fn10_write s).1))], [], (lw9 r t m y x c u ((fn10_write s).2) g), k + 1, j + 6) := by
  refine am_sg_of fun kt hkt => ?_
  refine am_cn (c := Int32.ofNat n - 2 < i) hi ?_
  refine am_ci (c := am_inb i n = true) hb0 ?_
  refine am_cn (c := (f i.toNatClampNeg &&& 15) = (0 : Int32)) (by rw [hx]; decide) ?_
  refine am_cn (c := (f i.toNatClampNeg &&& 15) = (1 : Int32)) (by rw [hx]; decide) ?_
  refine am_cn (c := (f i.toNatClampNeg &&& 15) = (2 : Int32)) (by rw [hx]; decide) ?_
  refine am_cn (c := (f i.toNatClampNeg &&& 15) = (3 : Int32)) (by rw [hx]; decide) ?_
  refine am_cn (c := (f i.toNatClampNeg &&& 15) = (4 : Int32)) (by rw [hx]; decide) ?_
  refine am_cn (c := (f i.toNatClampNeg &&& 15) = (5 : Int32)) (by rw [hx]; decide) ?_
  refine am_cn (c := (f i.toNatClampNeg &&& 15) = (6 : Int32)) (by rw [hx]; decide) ?_
  refine am_cn (c := (f i.toNatClampNeg &&& 15) = (7 : Int32)) (by rw [hx]; decide) ?_
  refine am_cn (c := (f i.toNatClampNeg &&& 15) = (8 : Int32)) (by rw [hx]; decide) ?_
  refine am_cn (c := (f i.toNatClampNeg &&& 15) = (9 : Int32)) (by rw [hx]; decide) ?_
  refine am_ci (c := (f i.toNatClampNeg &&& 15) = (10 : Int32)) hx ?_
  refine am_cyk (pre := prL_write_10) (f := fmL_write_10) (a' := [.inr (.inl 0), .inr (.inl 27)]) (wc := (kw_HO r t m y x c u g)) (w' := (lw9 r t m y x c u s g)) (r := (some (.inl 1), (kw_HO r t m y x c u g), 1, 6)) ?_ ?_ ?_ ?_ ?_ ?_ ?_ ?_ ?_ ?_ ?_ ?_ ?_
  · exact lw_Oo r t m y x c u s g
  · rfl
  · rfl
  · exact lw_Os r t m y x c u s g
  · exact ⟨r, t, m, y, x, c, u, g, rfl, rfl, hp⟩
  · exact feL_write_10 r t m y x c u g
  · exact lw_Ol r t m y x c u g
  · rfl
  · exact lw_Om r t m y x c u s g r t m y x c u g
  · exact hk1
  · exact hj1
  · rfl
  refine am_cyk (pre := pr10_write) (f := fm10_write) (a' := [.inr (.inl 0)]) (wc := (hm_w s)) (w' := (lw9 r t m y x c u ((fn10_write s).2) g)) (r := (some (.inl ((fn10_write s).1)), (hm_w ((fn10_write s).2)), 0, 0)) ?_ ?_ ?_ ?_ ?_ ?_ ?_ ?_ ?_ ?_ ?_ ?_ ?_
  · exact lw_Mo r t m y x c u s g
  · rfl
  · rfl
  · exact lw_Ms r t m y x c u s g
  · exact ⟨s, rfl, rfl, hq⟩
  · exact fe10_write s
  · exact lw_Ml ((fn10_write s).2)
  · rfl
  · exact lw_Mm r t m y x c u s g ((fn10_write s).2)
  · exact hk1
  · exact hj1
  · rfl
  refine am_cyk (pre := pr10_thrown) (f := fm10_thrown) (a' := [.inr (.inl 0)]) (wc := (hm_w ((fn10_write s).2))) (w' := (lw9 r t m y x c u ((fn10_write s).2) g)) (r := (some (.inl (fn10_thrown ((fn10_write s).2))), (hm_w ((fn10_write s).2)), 0, 0)) ?_ ?_ ?_ ?_ ?_ ?_ ?_ ?_ ?_ ?_ ?_ ?_ ?_
  · exact lw_Mo r t m y x c u ((fn10_write s).2) g
  · rfl
  · rfl
  · exact lw_Ms r t m y x c u ((fn10_write s).2) g
  · exact ⟨((fn10_write s).2), rfl, rfl, hz⟩
  · exact fe10_thrown ((fn10_write s).2)
  · exact lw_Ml ((fn10_write s).2)
  · rfl
  · exact lw_Mm r t m y x c u ((fn10_write s).2) g ((fn10_write s).2)
  · exact hk1
  · exact hj1
  · rfl
  refine am_ci (c := (fn10_thrown ((fn10_write s).2)) = 1) he ?_
  exact hkt
set_option maxRecDepth 100000 in
set_option maxHeartbeats 4000000 in
theorem sl_write_41 {n : Nat} {f : Nat → Int32} {i : Int32} (r : qt6) (t : qt6) (m : qt2) (y : qt0) (x : qt5) (c : qt1) (u : qt6) (s : hs) (g : Nat → Int32) {j5 j6 : Option am_V} {k j : Nat} (hi : ¬ Int32.ofNat n - 2 < i) (hb0 : am_inb i n = true) (hx : f i.toNatClampNeg &&& 15 = 10) (hp : wt9_write_41 r t m y x c u) (hq : wp10_write s) (hz : wp10_thrown ((fn10_write s).2)) (he : (fn10_thrown ((fn10_write s).2)) = 2) (hk1 : k + 1 ≤ 601024) (hj1 : j + 6 ≤ 7293034) : am_sg (am_mk (kbLaw n f kiLaw2) 601024 7293034 0) [23] (23, [some (.inr (.inr 75)), some (.inr (.inl 0)), some (.inr (.inl 27)), some (.inr (.inl 49)), some (.inl i), j5, j6], [], (lw9 r t m y x c u s g), k, j) (23, [some (.inr (.inr 75)), some (.inr (.inl 0)), some (.inr (.inl 27)), some (.inr (.inl 49)), some (.inl (i + 2)), some (.inl 2), some (.inl ((fn10_write s).1))], [], (lw9 r t ((fn8_fill u x m).2.2) y x c ((fn8_fill u x m).2.1) ((fn10_write s).2) g), k + 1, j + 6) := by
  refine am_sg_of fun kt hkt => ?_
  refine am_cn (c := Int32.ofNat n - 2 < i) hi ?_
  refine am_ci (c := am_inb i n = true) hb0 ?_
  refine am_cn (c := (f i.toNatClampNeg &&& 15) = (0 : Int32)) (by rw [hx]; decide) ?_
  refine am_cn (c := (f i.toNatClampNeg &&& 15) = (1 : Int32)) (by rw [hx]; decide) ?_
  refine am_cn (c := (f i.toNatClampNeg &&& 15) = (2 : Int32)) (by rw [hx]; decide) ?_
  refine am_cn (c := (f i.toNatClampNeg &&& 15) = (3 : Int32)) (by rw [hx]; decide) ?_
  refine am_cn (c := (f i.toNatClampNeg &&& 15) = (4 : Int32)) (by rw [hx]; decide) ?_
  refine am_cn (c := (f i.toNatClampNeg &&& 15) = (5 : Int32)) (by rw [hx]; decide) ?_
  refine am_cn (c := (f i.toNatClampNeg &&& 15) = (6 : Int32)) (by rw [hx]; decide) ?_
  refine am_cn (c := (f i.toNatClampNeg &&& 15) = (7 : Int32)) (by rw [hx]; decide) ?_
  refine am_cn (c := (f i.toNatClampNeg &&& 15) = (8 : Int32)) (by rw [hx]; decide) ?_
  refine am_cn (c := (f i.toNatClampNeg &&& 15) = (9 : Int32)) (by rw [hx]; decide) ?_
  refine am_ci (c := (f i.toNatClampNeg &&& 15) = (10 : Int32)) hx ?_
  refine am_cyk (pre := prL_write_41) (f := fmL_write_41) (a' := [.inr (.inl 0), .inr (.inl 27)]) (wc := (kw_HO r t m y x c u g)) (w' := (lw9 r t ((fn8_fill u x m).2.2) y x c ((fn8_fill u x m).2.1) s g)) (r := (some (.inl 2), (kw_HO r t ((fn8_fill u x m).2.2) y x c ((fn8_fill u x m).2.1) g), 1, 6)) ?_ ?_ ?_ ?_ ?_ ?_ ?_ ?_ ?_ ?_ ?_ ?_ ?_
  · exact lw_Oo r t m y x c u s g
  · rfl
  · rfl
  · exact lw_Os r t m y x c u s g
  · exact ⟨r, t, m, y, x, c, u, g, rfl, rfl, hp⟩
  · exact feL_write_41 r t m y x c u g
  · exact lw_Ol r t ((fn8_fill u x m).2.2) y x c ((fn8_fill u x m).2.1) g
  · rfl
  · exact lw_Om r t m y x c u s g r t ((fn8_fill u x m).2.2) y x c ((fn8_fill u x m).2.1) g
  · exact hk1
  · exact hj1
  · rfl
  refine am_cyk (pre := pr10_write) (f := fm10_write) (a' := [.inr (.inl 0)]) (wc := (hm_w s)) (w' := (lw9 r t ((fn8_fill u x m).2.2) y x c ((fn8_fill u x m).2.1) ((fn10_write s).2) g)) (r := (some (.inl ((fn10_write s).1)), (hm_w ((fn10_write s).2)), 0, 0)) ?_ ?_ ?_ ?_ ?_ ?_ ?_ ?_ ?_ ?_ ?_ ?_ ?_
  · exact lw_Mo r t ((fn8_fill u x m).2.2) y x c ((fn8_fill u x m).2.1) s g
  · rfl
  · rfl
  · exact lw_Ms r t ((fn8_fill u x m).2.2) y x c ((fn8_fill u x m).2.1) s g
  · exact ⟨s, rfl, rfl, hq⟩
  · exact fe10_write s
  · exact lw_Ml ((fn10_write s).2)
  · rfl
  · exact lw_Mm r t ((fn8_fill u x m).2.2) y x c ((fn8_fill u x m).2.1) s g ((fn10_write s).2)
  · exact hk1
  · exact hj1
  · rfl
  refine am_cyk (pre := pr10_thrown) (f := fm10_thrown) (a' := [.inr (.inl 0)]) (wc := (hm_w ((fn10_write s).2))) (w' := (lw9 r t ((fn8_fill u x m).2.2) y x c ((fn8_fill u x m).2.1) ((fn10_write s).2) g)) (r := (some (.inl (fn10_thrown ((fn10_write s).2))), (hm_w ((fn10_write s).2)), 0, 0)) ?_ ?_ ?_ ?_ ?_ ?_ ?_ ?_ ?_ ?_ ?_ ?_ ?_
  · exact lw_Mo r t ((fn8_fill u x m).2.2) y x c ((fn8_fill u x m).2.1) ((fn10_write s).2) g
  · rfl
  · rfl
  · exact lw_Ms r t ((fn8_fill u x m).2.2) y x c ((fn8_fill u x m).2.1) ((fn10_write s).2) g
  · exact ⟨((fn10_write s).2), rfl, rfl, hz⟩
  · exact fe10_thrown ((fn10_write s).2)
  · exact lw_Ml ((fn10_write s).2)
  · rfl
  · exact lw_Mm r t ((fn8_fill u x m).2.2) y x c ((fn8_fill u x m).2.1) ((fn10_write s).2) g ((fn10_write s).2)
  · exact hk1
  · exact hj1
  · rfl
  refine am_ci (c := (fn10_thrown ((fn10_write s).2)) = 2) he ?_
  exact hkt
set_option maxRecDepth 100000 in
set_option maxHeartbeats 4000000 in
theorem sl_written {n : Nat} {f : Nat → Int32} {i : Int32} (r : qt6) (t : qt6) (m : qt2) (y : qt0) (x : qt5) (c : qt1) (u : qt6) (s : hs) (g : Nat → Int32) {j5 j6 : Option am_V} {k j : Nat} (hi : ¬ Int32.ofNat n - 2 < i) (hb0 : am_inb i n = true) (hx : f i.toNatClampNeg &&& 15 = 11) (hp : wp9_written r t m y x c u) (hq : wp10_written s) (he : (fn9_written r t m y x c u) = ((fn10_written s).1)) (hk : k ≤ 601024) (hj : j ≤ 7293034) : am_sg (am_mk (kbLaw n f kiLaw0) 601024 7293034 0) [23] (23, [some (.inr (.inr 75)), some (.inr (.inl 0)), some (.inr (.inl 27)), some (.inr (.inl 49)), some (.inl i), j5, j6], [], (lw9 r t m y x c u s g), k, j) (23, [some (.inr (.inr 75)), some (.inr (.inl 0)), some (.inr (.inl 27)), some (.inr (.inl 49)), some (.inl (i + 2)), j5, j6], [], (lw9 r t m y x c u ((fn10_written s).2) g), k, j) := by
  refine am_sg_of fun kt hkt => ?_
  refine am_cn (c := Int32.ofNat n - 2 < i) hi ?_
  refine am_ci (c := am_inb i n = true) hb0 ?_
  refine am_cn (c := (f i.toNatClampNeg &&& 15) = (0 : Int32)) (by rw [hx]; decide) ?_
  refine am_cn (c := (f i.toNatClampNeg &&& 15) = (1 : Int32)) (by rw [hx]; decide) ?_
  refine am_cn (c := (f i.toNatClampNeg &&& 15) = (2 : Int32)) (by rw [hx]; decide) ?_
  refine am_cn (c := (f i.toNatClampNeg &&& 15) = (3 : Int32)) (by rw [hx]; decide) ?_
  refine am_cn (c := (f i.toNatClampNeg &&& 15) = (4 : Int32)) (by rw [hx]; decide) ?_
  refine am_cn (c := (f i.toNatClampNeg &&& 15) = (5 : Int32)) (by rw [hx]; decide) ?_
  refine am_cn (c := (f i.toNatClampNeg &&& 15) = (6 : Int32)) (by rw [hx]; decide) ?_
  refine am_cn (c := (f i.toNatClampNeg &&& 15) = (7 : Int32)) (by rw [hx]; decide) ?_
  refine am_cn (c := (f i.toNatClampNeg &&& 15) = (8 : Int32)) (by rw [hx]; decide) ?_
  refine am_cn (c := (f i.toNatClampNeg &&& 15) = (9 : Int32)) (by rw [hx]; decide) ?_
  refine am_cn (c := (f i.toNatClampNeg &&& 15) = (10 : Int32)) (by rw [hx]; decide) ?_
  refine am_ci (c := (f i.toNatClampNeg &&& 15) = (11 : Int32)) hx ?_
  refine am_cyk (pre := pr9_written) (f := fm9_written) (a' := [.inr (.inl 0)]) (wc := (kw_H r t m y x c u)) (w' := (lw9 r t m y x c u s g)) (r := (some (.inl (fn9_written r t m y x c u)), (kw_H r t m y x c u), 0, 0)) ?_ ?_ ?_ ?_ ?_ ?_ ?_ ?_ ?_ ?_ ?_ ?_ ?_
  · exact lw_Ho r t m y x c u s g
  · rfl
  · rfl
  · exact lw_Hs r t m y x c u s g
  · exact ⟨r, t, m, y, x, c, u, rfl, rfl, hp⟩
  · exact fe9_written r t m y x c u
  · exact lw_Hl r t m y x c u
  · rfl
  · exact lw_Hm r t m y x c u s g r t m y x c u
  · exact hk
  · exact hj
  · rfl
  refine am_cyk (pre := pr10_written) (f := fm10_written) (a' := [.inr (.inl 0)]) (wc := (hm_w s)) (w' := (lw9 r t m y x c u ((fn10_written s).2) g)) (r := (some (.inl ((fn10_written s).1)), (hm_w ((fn10_written s).2)), 0, 0)) ?_ ?_ ?_ ?_ ?_ ?_ ?_ ?_ ?_ ?_ ?_ ?_ ?_
  · exact lw_Mo r t m y x c u s g
  · rfl
  · rfl
  · exact lw_Ms r t m y x c u s g
  · exact ⟨s, rfl, rfl, hq⟩
  · exact fe10_written s
  · exact lw_Ml ((fn10_written s).2)
  · rfl
  · exact lw_Mm r t m y x c u s g ((fn10_written s).2)
  · exact hk
  · exact hj
  · rfl
  refine am_ci (c := (fn9_written r t m y x c u) = ((fn10_written s).1)) he ?_
  exact hkt
set_option maxRecDepth 100000 in
set_option maxHeartbeats 4000000 in
theorem sl_letter {n : Nat} {f : Nat → Int32} {i : Int32} (r : qt6) (t : qt6) (m : qt2) (y : qt0) (x : qt5) (c : qt1) (u : qt6) (s : hs) (g : Nat → Int32) {j5 j6 : Option am_V} {k j : Nat} (hi : ¬ Int32.ofNat n - 2 < i) (hb0 : am_inb i n = true) (hb1 : am_inb (i + 1) n = true) (hx : f i.toNatClampNeg &&& 15 = 12) (hp : wp9_letter r t m y x c u (f (i + 1).toNatClampNeg)) (hq : wp10_letter s (f (i + 1).toNatClampNeg)) (he : (fn9_letter r t m y x c u (f (i + 1).toNatClampNeg)) = ((fn10_letter s (f (i + 1).toNatClampNeg)).1)) (hk : k ≤ 601024) (hj : j ≤ 7293034) : am_sg (am_mk (kbLaw n f kiLaw0) 601024 7293034 0) [23] (23, [some (.inr (.inr 75)), some (.inr (.inl 0)), some (.inr (.inl 27)), some (.inr (.inl 49)), some (.inl i), j5, j6], [], (lw9 r t m y x c u s g), k, j) (23, [some (.inr (.inr 75)), some (.inr (.inl 0)), some (.inr (.inl 27)), some (.inr (.inl 49)), some (.inl (i + 2)), j5, j6], [], (lw9 r t m y x c u ((fn10_letter s (f (i + 1).toNatClampNeg)).2) g), k, j) := by
  refine am_sg_of fun kt hkt => ?_
  refine am_cn (c := Int32.ofNat n - 2 < i) hi ?_
  refine am_ci (c := am_inb i n = true) hb0 ?_
  refine am_cn (c := (f i.toNatClampNeg &&& 15) = (0 : Int32)) (by rw [hx]; decide) ?_
  refine am_cn (c := (f i.toNatClampNeg &&& 15) = (1 : Int32)) (by rw [hx]; decide) ?_
  refine am_cn (c := (f i.toNatClampNeg &&& 15) = (2 : Int32)) (by rw [hx]; decide) ?_
  refine am_cn (c := (f i.toNatClampNeg &&& 15) = (3 : Int32)) (by rw [hx]; decide) ?_
  refine am_cn (c := (f i.toNatClampNeg &&& 15) = (4 : Int32)) (by rw [hx]; decide) ?_
  refine am_cn (c := (f i.toNatClampNeg &&& 15) = (5 : Int32)) (by rw [hx]; decide) ?_
  refine am_cn (c := (f i.toNatClampNeg &&& 15) = (6 : Int32)) (by rw [hx]; decide) ?_
  refine am_cn (c := (f i.toNatClampNeg &&& 15) = (7 : Int32)) (by rw [hx]; decide) ?_
  refine am_cn (c := (f i.toNatClampNeg &&& 15) = (8 : Int32)) (by rw [hx]; decide) ?_
  refine am_cn (c := (f i.toNatClampNeg &&& 15) = (9 : Int32)) (by rw [hx]; decide) ?_
  refine am_cn (c := (f i.toNatClampNeg &&& 15) = (10 : Int32)) (by rw [hx]; decide) ?_
  refine am_cn (c := (f i.toNatClampNeg &&& 15) = (11 : Int32)) (by rw [hx]; decide) ?_
  refine am_ci (c := (f i.toNatClampNeg &&& 15) = (12 : Int32)) hx ?_
  refine am_ci (c := am_inb (i + 1) n = true) hb1 ?_
  refine am_cyk (pre := pr9_letter) (f := fm9_letter) (a' := [.inr (.inl 0), .inl (f (i + 1).toNatClampNeg)]) (wc := (kw_H r t m y x c u)) (w' := (lw9 r t m y x c u s g)) (r := (some (.inl (fn9_letter r t m y x c u (f (i + 1).toNatClampNeg))), (kw_H r t m y x c u), 0, 0)) ?_ ?_ ?_ ?_ ?_ ?_ ?_ ?_ ?_ ?_ ?_ ?_ ?_
  · exact lw_Ho r t m y x c u s g
  · rfl
  · rfl
  · exact lw_Hs r t m y x c u s g
  · exact ⟨r, t, m, y, x, c, u, (f (i + 1).toNatClampNeg), rfl, rfl, hp⟩
  · exact fe9_letter r t m y x c u (f (i + 1).toNatClampNeg)
  · exact lw_Hl r t m y x c u
  · rfl
  · exact lw_Hm r t m y x c u s g r t m y x c u
  · exact hk
  · exact hj
  · rfl
  refine am_ci (c := am_inb (i + 1) n = true) hb1 ?_
  refine am_cyk (pre := pr10_letter) (f := fm10_letter) (a' := [.inr (.inl 0), .inl (f (i + 1).toNatClampNeg)]) (wc := (hm_w s)) (w' := (lw9 r t m y x c u ((fn10_letter s (f (i + 1).toNatClampNeg)).2) g)) (r := (some (.inl ((fn10_letter s (f (i + 1).toNatClampNeg)).1)), (hm_w ((fn10_letter s (f (i + 1).toNatClampNeg)).2)), 0, 0)) ?_ ?_ ?_ ?_ ?_ ?_ ?_ ?_ ?_ ?_ ?_ ?_ ?_
  · exact lw_Mo r t m y x c u s g
  · rfl
  · rfl
  · exact lw_Ms r t m y x c u s g
  · exact ⟨s, (f (i + 1).toNatClampNeg), rfl, rfl, hq⟩
  · exact fe10_letter s (f (i + 1).toNatClampNeg)
  · exact lw_Ml ((fn10_letter s (f (i + 1).toNatClampNeg)).2)
  · rfl
  · exact lw_Mm r t m y x c u s g ((fn10_letter s (f (i + 1).toNatClampNeg)).2)
  · exact hk
  · exact hj
  · rfl
  refine am_ci (c := (fn9_letter r t m y x c u (f (i + 1).toNatClampNeg)) = ((fn10_letter s (f (i + 1).toNatClampNeg)).1)) he ?_
  exact hkt
set_option maxRecDepth 100000 in
set_option maxHeartbeats 4000000 in
theorem sl_none {n : Nat} {f : Nat → Int32} {i : Int32} {w : List am_C} {j5 j6 : Option am_V} {k j : Nat} (hi : ¬ Int32.ofNat n - 2 < i) (hb0 : am_inb i n = true) (hx : ∀ q : Nat, q < 13 → f i.toNatClampNeg &&& 15 ≠ Int32.ofNat q) : am_sg (am_mk (kbLaw n f kiLaw0) 601024 7293034 0) [23] (23, [some (.inr (.inr 75)), some (.inr (.inl 0)), some (.inr (.inl 27)), some (.inr (.inl 49)), some (.inl i), j5, j6], [], w, k, j) (23, [some (.inr (.inr 75)), some (.inr (.inl 0)), some (.inr (.inl 27)), some (.inr (.inl 49)), some (.inl (i + 2)), j5, j6], [], w, k, j) := by
  refine am_sg_of fun kt hkt => ?_
  refine am_cn (c := Int32.ofNat n - 2 < i) hi ?_
  refine am_ci (c := am_inb i n = true) hb0 ?_
  refine am_cn (c := (f i.toNatClampNeg &&& 15) = (0 : Int32)) (hx 0 (by decide)) ?_
  refine am_cn (c := (f i.toNatClampNeg &&& 15) = (1 : Int32)) (hx 1 (by decide)) ?_
  refine am_cn (c := (f i.toNatClampNeg &&& 15) = (2 : Int32)) (hx 2 (by decide)) ?_
  refine am_cn (c := (f i.toNatClampNeg &&& 15) = (3 : Int32)) (hx 3 (by decide)) ?_
  refine am_cn (c := (f i.toNatClampNeg &&& 15) = (4 : Int32)) (hx 4 (by decide)) ?_
  refine am_cn (c := (f i.toNatClampNeg &&& 15) = (5 : Int32)) (hx 5 (by decide)) ?_
  refine am_cn (c := (f i.toNatClampNeg &&& 15) = (6 : Int32)) (hx 6 (by decide)) ?_
  refine am_cn (c := (f i.toNatClampNeg &&& 15) = (7 : Int32)) (hx 7 (by decide)) ?_
  refine am_cn (c := (f i.toNatClampNeg &&& 15) = (8 : Int32)) (hx 8 (by decide)) ?_
  refine am_cn (c := (f i.toNatClampNeg &&& 15) = (9 : Int32)) (hx 9 (by decide)) ?_
  refine am_cn (c := (f i.toNatClampNeg &&& 15) = (10 : Int32)) (hx 10 (by decide)) ?_
  refine am_cn (c := (f i.toNatClampNeg &&& 15) = (11 : Int32)) (hx 11 (by decide)) ?_
  refine am_cn (c := (f i.toNatClampNeg &&& 15) = (12 : Int32)) (hx 12 (by decide)) ?_
  exact hkt
