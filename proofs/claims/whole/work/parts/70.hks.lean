def kl_H_0 : List am_V := [.inr (.inl 1), .inr (.inl 3), .inr (.inl 5), .inr (.inl 10), .inr (.inl 24)]
def kl_H_1 (r : qt6) : List am_V := [.inr (.inl 2), .inl (qg6_length r), .inl (qg6_spilled r)]
def kl_H_2 (t : qt6) : List am_V := [.inr (.inl 4), .inl (qg6_length t), .inl (qg6_spilled t)]
def kl_H_3 (m : qt2) : List am_V := [.inr (.inl 6), .inr (.inl 7), .inr (.inl 8), .inr (.inl 9)]
def kl_H_4 (y : qt0) : List am_V := [.inr (.inl 15), .inr (.inl 23), .inr (.inl 11), .inr (.inl 12), .inr (.inl 13), .inr (.inl 14), .inl (qg0_openCount y), .inl (qg0_holeCount y), .inl (qg0_faultPlace y), .inl (qg0_compiled y)]
def kl_H_5 (x : qt5) : List am_V := [.inr (.inl 16), .inr (.inl 17), .inr (.inl 18), .inr (.inl 19), .inr (.inl 20), .inr (.inl 21), .inr (.inl 22), .inl (qg5_count x), .inl (qg5_templateLength x)]
def kl_H_6 (c : qt1) : List am_V := [.inl (qg1_name c), .inl (qg1_element c), .inl (qg1_quote c), .inl (qg1_kind c), .inl (qg1_part c)]
def kl_H_7 : List am_V := [.inr (.inl 25)]
def kl_H_8 (u : qt6) : List am_V := [.inr (.inl 26), .inl (qg6_length u), .inl (qg6_spilled u)]
def kw_H (r : qt6) (t : qt6) (m : qt2) (y : qt0) (x : qt5) (c : qt1) (u : qt6) : List am_C := [.inr (9, kl_H_0), .inr (6, kl_H_1 r), .inl (1, 40, qg6_chars r), .inr (6, kl_H_2 t), .inl (1, 240, qg6_chars t), .inr (2, kl_H_3 m), .inl (1, 1280, qg2_chars m), .inl (0, 32, qg2_lengths m), .inl (0, 8, qg2_counts m), .inl (0, 8, qg2_alone m), .inr (0, kl_H_4 y), .inl (0, 240, qg0_holeCodes y), .inl (0, 6, qg0_openSymbols y), .inl (0, 6, qg0_openContexts y), .inl (0, 6, qg0_turnContexts y), .inr (5, kl_H_5 x), .inl (0, 240, qg5_kinds x), .inl (1, 240, qg5_signs x), .inl (0, 240, qg5_variables x), .inl (0, 240, qg5_places x), .inl (0, 240, qg5_turns x), .inl (0, 240, qg5_closes x), .inl (0, 240, qg5_codes x), .inr (1, kl_H_6 c), .inr (8, kl_H_7), .inr (6, kl_H_8 u), .inl (1, 1000, qg6_chars u)]
theorem kp_H_1_length (r : qt6) (t : qt6) (m : qt2) (y : qt0) (x : qt5) (c : qt1) (u : qt6) (v : Int32) : (kw_H r t m y x c u).set 1 (.inr (6, (kl_H_1 r).set 1 (.inl v))) = (kw_H (qu6_length r v) t m y x c u) := rfl
theorem kp_H_1_spilled (r : qt6) (t : qt6) (m : qt2) (y : qt0) (x : qt5) (c : qt1) (u : qt6) (v : Int32) : (kw_H r t m y x c u).set 1 (.inr (6, (kl_H_1 r).set 2 (.inl v))) = (kw_H (qu6_spilled r v) t m y x c u) := rfl
theorem kp_H_1_chars (r : qt6) (t : qt6) (m : qt2) (y : qt0) (x : qt5) (c : qt1) (u : qt6) (ix : Nat) (yv : Int32) : (kw_H r t m y x c u).set 2 (.inl (1, 40, upd (qg6_chars r) ix yv)) = (kw_H (qa6_chars r ix yv) t m y x c u) := rfl
theorem kp_H_2_length (r : qt6) (t : qt6) (m : qt2) (y : qt0) (x : qt5) (c : qt1) (u : qt6) (v : Int32) : (kw_H r t m y x c u).set 3 (.inr (6, (kl_H_2 t).set 1 (.inl v))) = (kw_H r (qu6_length t v) m y x c u) := rfl
theorem kp_H_2_spilled (r : qt6) (t : qt6) (m : qt2) (y : qt0) (x : qt5) (c : qt1) (u : qt6) (v : Int32) : (kw_H r t m y x c u).set 3 (.inr (6, (kl_H_2 t).set 2 (.inl v))) = (kw_H r (qu6_spilled t v) m y x c u) := rfl
theorem kp_H_2_chars (r : qt6) (t : qt6) (m : qt2) (y : qt0) (x : qt5) (c : qt1) (u : qt6) (ix : Nat) (yv : Int32) : (kw_H r t m y x c u).set 4 (.inl (1, 240, upd (qg6_chars t) ix yv)) = (kw_H r (qa6_chars t ix yv) m y x c u) := rfl
theorem kp_H_3_chars (r : qt6) (t : qt6) (m : qt2) (y : qt0) (x : qt5) (c : qt1) (u : qt6) (ix : Nat) (yv : Int32) : (kw_H r t m y x c u).set 6 (.inl (1, 1280, upd (qg2_chars m) ix yv)) = (kw_H r t (qa2_chars m ix yv) y x c u) := rfl
theorem kp_H_3_lengths (r : qt6) (t : qt6) (m : qt2) (y : qt0) (x : qt5) (c : qt1) (u : qt6) (ix : Nat) (yv : Int32) : (kw_H r t m y x c u).set 7 (.inl (0, 32, upd (qg2_lengths m) ix yv)) = (kw_H r t (qa2_lengths m ix yv) y x c u) := rfl
theorem kp_H_3_counts (r : qt6) (t : qt6) (m : qt2) (y : qt0) (x : qt5) (c : qt1) (u : qt6) (ix : Nat) (yv : Int32) : (kw_H r t m y x c u).set 8 (.inl (0, 8, upd (qg2_counts m) ix yv)) = (kw_H r t (qa2_counts m ix yv) y x c u) := rfl
theorem kp_H_3_alone (r : qt6) (t : qt6) (m : qt2) (y : qt0) (x : qt5) (c : qt1) (u : qt6) (ix : Nat) (yv : Int32) : (kw_H r t m y x c u).set 9 (.inl (0, 8, upd (qg2_alone m) ix yv)) = (kw_H r t (qa2_alone m ix yv) y x c u) := rfl
theorem kp_H_4_openCount (r : qt6) (t : qt6) (m : qt2) (y : qt0) (x : qt5) (c : qt1) (u : qt6) (v : Int32) : (kw_H r t m y x c u).set 10 (.inr (0, (kl_H_4 y).set 6 (.inl v))) = (kw_H r t m (qu0_openCount y v) x c u) := rfl
theorem kp_H_4_holeCount (r : qt6) (t : qt6) (m : qt2) (y : qt0) (x : qt5) (c : qt1) (u : qt6) (v : Int32) : (kw_H r t m y x c u).set 10 (.inr (0, (kl_H_4 y).set 7 (.inl v))) = (kw_H r t m (qu0_holeCount y v) x c u) := rfl
theorem kp_H_4_faultPlace (r : qt6) (t : qt6) (m : qt2) (y : qt0) (x : qt5) (c : qt1) (u : qt6) (v : Int32) : (kw_H r t m y x c u).set 10 (.inr (0, (kl_H_4 y).set 8 (.inl v))) = (kw_H r t m (qu0_faultPlace y v) x c u) := rfl
theorem kp_H_4_compiled (r : qt6) (t : qt6) (m : qt2) (y : qt0) (x : qt5) (c : qt1) (u : qt6) (v : Int32) : (kw_H r t m y x c u).set 10 (.inr (0, (kl_H_4 y).set 9 (.inl v))) = (kw_H r t m (qu0_compiled y v) x c u) := rfl
theorem kp_H_4_holeCodes (r : qt6) (t : qt6) (m : qt2) (y : qt0) (x : qt5) (c : qt1) (u : qt6) (ix : Nat) (yv : Int32) : (kw_H r t m y x c u).set 11 (.inl (0, 240, upd (qg0_holeCodes y) ix yv)) = (kw_H r t m (qa0_holeCodes y ix yv) x c u) := rfl
theorem kp_H_4_openSymbols (r : qt6) (t : qt6) (m : qt2) (y : qt0) (x : qt5) (c : qt1) (u : qt6) (ix : Nat) (yv : Int32) : (kw_H r t m y x c u).set 12 (.inl (0, 6, upd (qg0_openSymbols y) ix yv)) = (kw_H r t m (qa0_openSymbols y ix yv) x c u) := rfl
theorem kp_H_4_openContexts (r : qt6) (t : qt6) (m : qt2) (y : qt0) (x : qt5) (c : qt1) (u : qt6) (ix : Nat) (yv : Int32) : (kw_H r t m y x c u).set 13 (.inl (0, 6, upd (qg0_openContexts y) ix yv)) = (kw_H r t m (qa0_openContexts y ix yv) x c u) := rfl
theorem kp_H_4_turnContexts (r : qt6) (t : qt6) (m : qt2) (y : qt0) (x : qt5) (c : qt1) (u : qt6) (ix : Nat) (yv : Int32) : (kw_H r t m y x c u).set 14 (.inl (0, 6, upd (qg0_turnContexts y) ix yv)) = (kw_H r t m (qa0_turnContexts y ix yv) x c u) := rfl
theorem kp_H_5_count (r : qt6) (t : qt6) (m : qt2) (y : qt0) (x : qt5) (c : qt1) (u : qt6) (v : Int32) : (kw_H r t m y x c u).set 15 (.inr (5, (kl_H_5 x).set 7 (.inl v))) = (kw_H r t m y (qu5_count x v) c u) := rfl
theorem kp_H_5_templateLength (r : qt6) (t : qt6) (m : qt2) (y : qt0) (x : qt5) (c : qt1) (u : qt6) (v : Int32) : (kw_H r t m y x c u).set 15 (.inr (5, (kl_H_5 x).set 8 (.inl v))) = (kw_H r t m y (qu5_templateLength x v) c u) := rfl
theorem kp_H_5_kinds (r : qt6) (t : qt6) (m : qt2) (y : qt0) (x : qt5) (c : qt1) (u : qt6) (ix : Nat) (yv : Int32) : (kw_H r t m y x c u).set 16 (.inl (0, 240, upd (qg5_kinds x) ix yv)) = (kw_H r t m y (qa5_kinds x ix yv) c u) := rfl
theorem kp_H_5_signs (r : qt6) (t : qt6) (m : qt2) (y : qt0) (x : qt5) (c : qt1) (u : qt6) (ix : Nat) (yv : Int32) : (kw_H r t m y x c u).set 17 (.inl (1, 240, upd (qg5_signs x) ix yv)) = (kw_H r t m y (qa5_signs x ix yv) c u) := rfl
theorem kp_H_5_variables (r : qt6) (t : qt6) (m : qt2) (y : qt0) (x : qt5) (c : qt1) (u : qt6) (ix : Nat) (yv : Int32) : (kw_H r t m y x c u).set 18 (.inl (0, 240, upd (qg5_variables x) ix yv)) = (kw_H r t m y (qa5_variables x ix yv) c u) := rfl
theorem kp_H_5_places (r : qt6) (t : qt6) (m : qt2) (y : qt0) (x : qt5) (c : qt1) (u : qt6) (ix : Nat) (yv : Int32) : (kw_H r t m y x c u).set 19 (.inl (0, 240, upd (qg5_places x) ix yv)) = (kw_H r t m y (qa5_places x ix yv) c u) := rfl
theorem kp_H_5_turns (r : qt6) (t : qt6) (m : qt2) (y : qt0) (x : qt5) (c : qt1) (u : qt6) (ix : Nat) (yv : Int32) : (kw_H r t m y x c u).set 20 (.inl (0, 240, upd (qg5_turns x) ix yv)) = (kw_H r t m y (qa5_turns x ix yv) c u) := rfl
theorem kp_H_5_closes (r : qt6) (t : qt6) (m : qt2) (y : qt0) (x : qt5) (c : qt1) (u : qt6) (ix : Nat) (yv : Int32) : (kw_H r t m y x c u).set 21 (.inl (0, 240, upd (qg5_closes x) ix yv)) = (kw_H r t m y (qa5_closes x ix yv) c u) := rfl
theorem kp_H_5_codes (r : qt6) (t : qt6) (m : qt2) (y : qt0) (x : qt5) (c : qt1) (u : qt6) (ix : Nat) (yv : Int32) : (kw_H r t m y x c u).set 22 (.inl (0, 240, upd (qg5_codes x) ix yv)) = (kw_H r t m y (qa5_codes x ix yv) c u) := rfl
theorem kp_H_6_name (r : qt6) (t : qt6) (m : qt2) (y : qt0) (x : qt5) (c : qt1) (u : qt6) (v : Int32) : (kw_H r t m y x c u).set 23 (.inr (1, (kl_H_6 c).set 0 (.inl v))) = (kw_H r t m y x (qu1_name c v) u) := rfl
theorem kp_H_6_element (r : qt6) (t : qt6) (m : qt2) (y : qt0) (x : qt5) (c : qt1) (u : qt6) (v : Int32) : (kw_H r t m y x c u).set 23 (.inr (1, (kl_H_6 c).set 1 (.inl v))) = (kw_H r t m y x (qu1_element c v) u) := rfl
theorem kp_H_6_quote (r : qt6) (t : qt6) (m : qt2) (y : qt0) (x : qt5) (c : qt1) (u : qt6) (v : Int32) : (kw_H r t m y x c u).set 23 (.inr (1, (kl_H_6 c).set 2 (.inl v))) = (kw_H r t m y x (qu1_quote c v) u) := rfl
theorem kp_H_6_kind (r : qt6) (t : qt6) (m : qt2) (y : qt0) (x : qt5) (c : qt1) (u : qt6) (v : Int32) : (kw_H r t m y x c u).set 23 (.inr (1, (kl_H_6 c).set 3 (.inl v))) = (kw_H r t m y x (qu1_kind c v) u) := rfl
theorem kp_H_6_part (r : qt6) (t : qt6) (m : qt2) (y : qt0) (x : qt5) (c : qt1) (u : qt6) (v : Int32) : (kw_H r t m y x c u).set 23 (.inr (1, (kl_H_6 c).set 4 (.inl v))) = (kw_H r t m y x (qu1_part c v) u) := rfl
theorem kp_H_8_length (r : qt6) (t : qt6) (m : qt2) (y : qt0) (x : qt5) (c : qt1) (u : qt6) (v : Int32) : (kw_H r t m y x c u).set 25 (.inr (6, (kl_H_8 u).set 1 (.inl v))) = (kw_H r t m y x c (qu6_length u v)) := rfl
theorem kp_H_8_spilled (r : qt6) (t : qt6) (m : qt2) (y : qt0) (x : qt5) (c : qt1) (u : qt6) (v : Int32) : (kw_H r t m y x c u).set 25 (.inr (6, (kl_H_8 u).set 2 (.inl v))) = (kw_H r t m y x c (qu6_spilled u v)) := rfl
theorem kp_H_8_chars (r : qt6) (t : qt6) (m : qt2) (y : qt0) (x : qt5) (c : qt1) (u : qt6) (ix : Nat) (yv : Int32) : (kw_H r t m y x c u).set 26 (.inl (1, 1000, upd (qg6_chars u) ix yv)) = (kw_H r t m y x c (qa6_chars u ix yv)) := rfl
set_option maxRecDepth 100000 in
set_option maxHeartbeats 4000000 in
theorem ks_H_T_1_o (r : qt6) (t : qt6) (m : qt2) (y : qt0) (x : qt5) (c : qt1) (u : qt6) : am_sow (kw_H r t m y x c u) [1, 2] = true := rfl
set_option maxRecDepth 100000 in
set_option maxHeartbeats 4000000 in
theorem ks_H_T_1_s (r : qt6) (t : qt6) (m : qt2) (y : qt0) (x : qt5) (c : qt1) (u : qt6) : am_sub (kw_H r t m y x c u) [1, 2] = (kw_T 40 r) := rfl
set_option maxRecDepth 100000 in
set_option maxHeartbeats 4000000 in
theorem ks_H_T_1_m (r : qt6) (t : qt6) (m : qt2) (y : qt0) (x : qt5) (c : qt1) (u : qt6) (z0 : qt6) : am_mix (kw_H r t m y x c u) [1, 2] (kw_T 40 z0) = (kw_H z0 t m y x c u) := rfl
set_option maxRecDepth 100000 in
set_option maxHeartbeats 4000000 in
theorem ks_H_T_2_o (r : qt6) (t : qt6) (m : qt2) (y : qt0) (x : qt5) (c : qt1) (u : qt6) : am_sow (kw_H r t m y x c u) [3, 4] = true := rfl
set_option maxRecDepth 100000 in
set_option maxHeartbeats 4000000 in
theorem ks_H_T_2_s (r : qt6) (t : qt6) (m : qt2) (y : qt0) (x : qt5) (c : qt1) (u : qt6) : am_sub (kw_H r t m y x c u) [3, 4] = (kw_T 240 t) := rfl
set_option maxRecDepth 100000 in
set_option maxHeartbeats 4000000 in
theorem ks_H_T_2_m (r : qt6) (t : qt6) (m : qt2) (y : qt0) (x : qt5) (c : qt1) (u : qt6) (z0 : qt6) : am_mix (kw_H r t m y x c u) [3, 4] (kw_T 240 z0) = (kw_H r z0 m y x c u) := rfl
set_option maxRecDepth 100000 in
set_option maxHeartbeats 4000000 in
theorem ks_H_PT_4_5_6_2_o (r : qt6) (t : qt6) (m : qt2) (y : qt0) (x : qt5) (c : qt1) (u : qt6) : am_sow (kw_H r t m y x c u) [10, 11, 12, 13, 14, 15, 16, 17, 18, 19, 20, 21, 22, 23, 3, 4] = true := rfl
set_option maxRecDepth 100000 in
set_option maxHeartbeats 4000000 in
theorem ks_H_PT_4_5_6_2_s (r : qt6) (t : qt6) (m : qt2) (y : qt0) (x : qt5) (c : qt1) (u : qt6) : am_sub (kw_H r t m y x c u) [10, 11, 12, 13, 14, 15, 16, 17, 18, 19, 20, 21, 22, 23, 3, 4] = (kw_PT y x c t) := rfl
set_option maxRecDepth 100000 in
set_option maxHeartbeats 4000000 in
theorem ks_H_PT_4_5_6_2_m (r : qt6) (t : qt6) (m : qt2) (y : qt0) (x : qt5) (c : qt1) (u : qt6) (z0 : qt0) (z1 : qt5) (z2 : qt1) (z3 : qt6) : am_mix (kw_H r t m y x c u) [10, 11, 12, 13, 14, 15, 16, 17, 18, 19, 20, 21, 22, 23, 3, 4] (kw_PT z0 z1 z2 z3) = (kw_H r z3 m z0 z1 z2 u) := rfl
set_option maxRecDepth 100000 in
set_option maxHeartbeats 4000000 in
theorem ks_H_P_4_5_6_o (r : qt6) (t : qt6) (m : qt2) (y : qt0) (x : qt5) (c : qt1) (u : qt6) : am_sow (kw_H r t m y x c u) [10, 11, 12, 13, 14, 15, 16, 17, 18, 19, 20, 21, 22, 23] = true := rfl
set_option maxRecDepth 100000 in
set_option maxHeartbeats 4000000 in
theorem ks_H_P_4_5_6_s (r : qt6) (t : qt6) (m : qt2) (y : qt0) (x : qt5) (c : qt1) (u : qt6) : am_sub (kw_H r t m y x c u) [10, 11, 12, 13, 14, 15, 16, 17, 18, 19, 20, 21, 22, 23] = (kw_P y x c) := rfl
set_option maxRecDepth 100000 in
set_option maxHeartbeats 4000000 in
theorem ks_H_P_4_5_6_m (r : qt6) (t : qt6) (m : qt2) (y : qt0) (x : qt5) (c : qt1) (u : qt6) (z0 : qt0) (z1 : qt5) (z2 : qt1) : am_mix (kw_H r t m y x c u) [10, 11, 12, 13, 14, 15, 16, 17, 18, 19, 20, 21, 22, 23] (kw_P z0 z1 z2) = (kw_H r t m z0 z1 z2 u) := rfl
set_option maxRecDepth 100000 in
set_option maxHeartbeats 4000000 in
theorem ks_H_T_8_o (r : qt6) (t : qt6) (m : qt2) (y : qt0) (x : qt5) (c : qt1) (u : qt6) : am_sow (kw_H r t m y x c u) [25, 26] = true := rfl
set_option maxRecDepth 100000 in
set_option maxHeartbeats 4000000 in
theorem ks_H_T_8_s (r : qt6) (t : qt6) (m : qt2) (y : qt0) (x : qt5) (c : qt1) (u : qt6) : am_sub (kw_H r t m y x c u) [25, 26] = (kw_T 1000 u) := rfl
set_option maxRecDepth 100000 in
set_option maxHeartbeats 4000000 in
theorem ks_H_T_8_m (r : qt6) (t : qt6) (m : qt2) (y : qt0) (x : qt5) (c : qt1) (u : qt6) (z0 : qt6) : am_mix (kw_H r t m y x c u) [25, 26] (kw_T 1000 z0) = (kw_H r t m y x c z0) := rfl
