/-! the class's states and worlds -/
abbrev qt6 : Type := Int32 × Int32 × (Nat → Int32)
def qg6_length (s : qt6) : Int32 := s.1
def qu6_length (s : qt6) (v : Int32) : qt6 := (v, s.2)
def qg6_spilled (s : qt6) : Int32 := s.2.1
def qu6_spilled (s : qt6) (v : Int32) : qt6 := (s.1, v, s.2.2)
def qg6_chars (s : qt6) : Nat → Int32 := s.2.2
def qu6_chars (s : qt6) (v : Nat → Int32) : qt6 := (s.1, s.2.1, v)
def qa6_chars (s : qt6) (i : Nat) (y : Int32) : qt6 := qu6_chars s (upd (qg6_chars s) i y)
def qs6 (w : List am_C) (b : Nat) : qt6 := (am_gx w b 1, am_gx w b 2, am_ga w (b + 1))
abbrev qt2 : Type := (Nat → Int32) × (Nat → Int32) × (Nat → Int32) × (Nat → Int32)
def qg2_chars (s : qt2) : Nat → Int32 := s.1
def qu2_chars (s : qt2) (v : Nat → Int32) : qt2 := (v, s.2)
def qa2_chars (s : qt2) (i : Nat) (y : Int32) : qt2 := qu2_chars s (upd (qg2_chars s) i y)
def qg2_lengths (s : qt2) : Nat → Int32 := s.2.1
def qu2_lengths (s : qt2) (v : Nat → Int32) : qt2 := (s.1, v, s.2.2)
def qa2_lengths (s : qt2) (i : Nat) (y : Int32) : qt2 := qu2_lengths s (upd (qg2_lengths s) i y)
def qg2_counts (s : qt2) : Nat → Int32 := s.2.2.1
def qu2_counts (s : qt2) (v : Nat → Int32) : qt2 := (s.1, s.2.1, v, s.2.2.2)
def qa2_counts (s : qt2) (i : Nat) (y : Int32) : qt2 := qu2_counts s (upd (qg2_counts s) i y)
def qg2_alone (s : qt2) : Nat → Int32 := s.2.2.2
def qu2_alone (s : qt2) (v : Nat → Int32) : qt2 := (s.1, s.2.1, s.2.2.1, v)
def qa2_alone (s : qt2) (i : Nat) (y : Int32) : qt2 := qu2_alone s (upd (qg2_alone s) i y)
def qs2 (w : List am_C) (b : Nat) : qt2 := (am_ga w (b + 1), am_ga w (b + 2), am_ga w (b + 3), am_ga w (b + 4))
abbrev qt5 : Type := Int32 × Int32 × (Nat → Int32) × (Nat → Int32) × (Nat → Int32) × (Nat → Int32) × (Nat → Int32) × (Nat → Int32) × (Nat → Int32)
def qg5_count (s : qt5) : Int32 := s.1
def qu5_count (s : qt5) (v : Int32) : qt5 := (v, s.2)
def qg5_templateLength (s : qt5) : Int32 := s.2.1
def qu5_templateLength (s : qt5) (v : Int32) : qt5 := (s.1, v, s.2.2)
def qg5_kinds (s : qt5) : Nat → Int32 := s.2.2.1
def qu5_kinds (s : qt5) (v : Nat → Int32) : qt5 := (s.1, s.2.1, v, s.2.2.2)
def qa5_kinds (s : qt5) (i : Nat) (y : Int32) : qt5 := qu5_kinds s (upd (qg5_kinds s) i y)
def qg5_signs (s : qt5) : Nat → Int32 := s.2.2.2.1
def qu5_signs (s : qt5) (v : Nat → Int32) : qt5 := (s.1, s.2.1, s.2.2.1, v, s.2.2.2.2)
def qa5_signs (s : qt5) (i : Nat) (y : Int32) : qt5 := qu5_signs s (upd (qg5_signs s) i y)
def qg5_variables (s : qt5) : Nat → Int32 := s.2.2.2.2.1
def qu5_variables (s : qt5) (v : Nat → Int32) : qt5 := (s.1, s.2.1, s.2.2.1, s.2.2.2.1, v, s.2.2.2.2.2)
def qa5_variables (s : qt5) (i : Nat) (y : Int32) : qt5 := qu5_variables s (upd (qg5_variables s) i y)
def qg5_places (s : qt5) : Nat → Int32 := s.2.2.2.2.2.1
def qu5_places (s : qt5) (v : Nat → Int32) : qt5 := (s.1, s.2.1, s.2.2.1, s.2.2.2.1, s.2.2.2.2.1, v, s.2.2.2.2.2.2)
def qa5_places (s : qt5) (i : Nat) (y : Int32) : qt5 := qu5_places s (upd (qg5_places s) i y)
def qg5_turns (s : qt5) : Nat → Int32 := s.2.2.2.2.2.2.1
def qu5_turns (s : qt5) (v : Nat → Int32) : qt5 := (s.1, s.2.1, s.2.2.1, s.2.2.2.1, s.2.2.2.2.1, s.2.2.2.2.2.1, v, s.2.2.2.2.2.2.2)
def qa5_turns (s : qt5) (i : Nat) (y : Int32) : qt5 := qu5_turns s (upd (qg5_turns s) i y)
def qg5_closes (s : qt5) : Nat → Int32 := s.2.2.2.2.2.2.2.1
def qu5_closes (s : qt5) (v : Nat → Int32) : qt5 := (s.1, s.2.1, s.2.2.1, s.2.2.2.1, s.2.2.2.2.1, s.2.2.2.2.2.1, s.2.2.2.2.2.2.1, v, s.2.2.2.2.2.2.2.2)
def qa5_closes (s : qt5) (i : Nat) (y : Int32) : qt5 := qu5_closes s (upd (qg5_closes s) i y)
def qg5_codes (s : qt5) : Nat → Int32 := s.2.2.2.2.2.2.2.2
def qu5_codes (s : qt5) (v : Nat → Int32) : qt5 := (s.1, s.2.1, s.2.2.1, s.2.2.2.1, s.2.2.2.2.1, s.2.2.2.2.2.1, s.2.2.2.2.2.2.1, s.2.2.2.2.2.2.2.1, v)
def qa5_codes (s : qt5) (i : Nat) (y : Int32) : qt5 := qu5_codes s (upd (qg5_codes s) i y)
def qs5 (w : List am_C) (b : Nat) : qt5 := (am_gx w b 7, am_gx w b 8, am_ga w (b + 1), am_ga w (b + 2), am_ga w (b + 3), am_ga w (b + 4), am_ga w (b + 5), am_ga w (b + 6), am_ga w (b + 7))
abbrev qt1 : Type := Int32 × Int32 × Int32 × Int32 × Int32
def qg1_name (s : qt1) : Int32 := s.1
def qu1_name (s : qt1) (v : Int32) : qt1 := (v, s.2)
def qg1_element (s : qt1) : Int32 := s.2.1
def qu1_element (s : qt1) (v : Int32) : qt1 := (s.1, v, s.2.2)
def qg1_quote (s : qt1) : Int32 := s.2.2.1
def qu1_quote (s : qt1) (v : Int32) : qt1 := (s.1, s.2.1, v, s.2.2.2)
def qg1_kind (s : qt1) : Int32 := s.2.2.2.1
def qu1_kind (s : qt1) (v : Int32) : qt1 := (s.1, s.2.1, s.2.2.1, v, s.2.2.2.2)
def qg1_part (s : qt1) : Int32 := s.2.2.2.2
def qu1_part (s : qt1) (v : Int32) : qt1 := (s.1, s.2.1, s.2.2.1, s.2.2.2.1, v)
def qs1 (w : List am_C) (b : Nat) : qt1 := (am_gx w b 0, am_gx w b 1, am_gx w b 2, am_gx w b 3, am_gx w b 4)
abbrev qt0 : Type := Int32 × Int32 × Int32 × Int32 × (Nat → Int32) × (Nat → Int32) × (Nat → Int32) × (Nat → Int32)
def qg0_openCount (s : qt0) : Int32 := s.1
def qu0_openCount (s : qt0) (v : Int32) : qt0 := (v, s.2)
def qg0_holeCount (s : qt0) : Int32 := s.2.1
def qu0_holeCount (s : qt0) (v : Int32) : qt0 := (s.1, v, s.2.2)
def qg0_faultPlace (s : qt0) : Int32 := s.2.2.1
def qu0_faultPlace (s : qt0) (v : Int32) : qt0 := (s.1, s.2.1, v, s.2.2.2)
def qg0_compiled (s : qt0) : Int32 := s.2.2.2.1
def qu0_compiled (s : qt0) (v : Int32) : qt0 := (s.1, s.2.1, s.2.2.1, v, s.2.2.2.2)
def qg0_holeCodes (s : qt0) : Nat → Int32 := s.2.2.2.2.1
def qu0_holeCodes (s : qt0) (v : Nat → Int32) : qt0 := (s.1, s.2.1, s.2.2.1, s.2.2.2.1, v, s.2.2.2.2.2)
def qa0_holeCodes (s : qt0) (i : Nat) (y : Int32) : qt0 := qu0_holeCodes s (upd (qg0_holeCodes s) i y)
def qg0_openSymbols (s : qt0) : Nat → Int32 := s.2.2.2.2.2.1
def qu0_openSymbols (s : qt0) (v : Nat → Int32) : qt0 := (s.1, s.2.1, s.2.2.1, s.2.2.2.1, s.2.2.2.2.1, v, s.2.2.2.2.2.2)
def qa0_openSymbols (s : qt0) (i : Nat) (y : Int32) : qt0 := qu0_openSymbols s (upd (qg0_openSymbols s) i y)
def qg0_openContexts (s : qt0) : Nat → Int32 := s.2.2.2.2.2.2.1
def qu0_openContexts (s : qt0) (v : Nat → Int32) : qt0 := (s.1, s.2.1, s.2.2.1, s.2.2.2.1, s.2.2.2.2.1, s.2.2.2.2.2.1, v, s.2.2.2.2.2.2.2)
def qa0_openContexts (s : qt0) (i : Nat) (y : Int32) : qt0 := qu0_openContexts s (upd (qg0_openContexts s) i y)
def qg0_turnContexts (s : qt0) : Nat → Int32 := s.2.2.2.2.2.2.2
def qu0_turnContexts (s : qt0) (v : Nat → Int32) : qt0 := (s.1, s.2.1, s.2.2.1, s.2.2.2.1, s.2.2.2.2.1, s.2.2.2.2.2.1, s.2.2.2.2.2.2.1, v)
def qa0_turnContexts (s : qt0) (i : Nat) (y : Int32) : qt0 := qu0_turnContexts s (upd (qg0_turnContexts s) i y)
def qs0 (w : List am_C) (b : Nat) : qt0 := (am_gx w b 6, am_gx w b 7, am_gx w b 8, am_gx w b 9, am_ga w (b + 1), am_ga w (b + 2), am_ga w (b + 3), am_ga w (b + 4))
def kl_T_0 (t : qt6) : List am_V := [.inr (.inl 1), .inl (qg6_length t), .inl (qg6_spilled t)]
def kw_T (n : Nat) (t : qt6) : List am_C := [.inr (6, kl_T_0 t), .inl (1, n, qg6_chars t)]
theorem kp_T_0_length (n : Nat) (t : qt6) (v : Int32) : (kw_T n t).set 0 (.inr (6, (kl_T_0 t).set 1 (.inl v))) = (kw_T n (qu6_length t v)) := rfl
theorem kp_T_0_spilled (n : Nat) (t : qt6) (v : Int32) : (kw_T n t).set 0 (.inr (6, (kl_T_0 t).set 2 (.inl v))) = (kw_T n (qu6_spilled t v)) := rfl
theorem kp_T_0_chars (n : Nat) (t : qt6) (ix : Nat) (yv : Int32) : (kw_T n t).set 1 (.inl (1, n, upd (qg6_chars t) ix yv)) = (kw_T n (qa6_chars t ix yv)) := rfl
set_option maxRecDepth 100000 in
set_option maxHeartbeats 4000000 in
theorem kwl_T (n : Nat) (t : qt6) : am_wl (kw_T n t) 2 = true := rfl
def kl_I_0 (m : qt2) : List am_V := [.inr (.inl 1), .inr (.inl 2), .inr (.inl 3), .inr (.inl 4)]
def kw_I (m : qt2) : List am_C := [.inr (2, kl_I_0 m), .inl (1, 1280, qg2_chars m), .inl (0, 32, qg2_lengths m), .inl (0, 8, qg2_counts m), .inl (0, 8, qg2_alone m)]
theorem kp_I_0_chars (m : qt2) (ix : Nat) (yv : Int32) : (kw_I m).set 1 (.inl (1, 1280, upd (qg2_chars m) ix yv)) = (kw_I (qa2_chars m ix yv)) := rfl
theorem kp_I_0_lengths (m : qt2) (ix : Nat) (yv : Int32) : (kw_I m).set 2 (.inl (0, 32, upd (qg2_lengths m) ix yv)) = (kw_I (qa2_lengths m ix yv)) := rfl
theorem kp_I_0_counts (m : qt2) (ix : Nat) (yv : Int32) : (kw_I m).set 3 (.inl (0, 8, upd (qg2_counts m) ix yv)) = (kw_I (qa2_counts m ix yv)) := rfl
theorem kp_I_0_alone (m : qt2) (ix : Nat) (yv : Int32) : (kw_I m).set 4 (.inl (0, 8, upd (qg2_alone m) ix yv)) = (kw_I (qa2_alone m ix yv)) := rfl
set_option maxRecDepth 100000 in
set_option maxHeartbeats 4000000 in
theorem kwl_I (m : qt2) : am_wl (kw_I m) 5 = true := rfl
def kl_S_0 (x : qt5) : List am_V := [.inr (.inl 1), .inr (.inl 2), .inr (.inl 3), .inr (.inl 4), .inr (.inl 5), .inr (.inl 6), .inr (.inl 7), .inl (qg5_count x), .inl (qg5_templateLength x)]
def kw_S (x : qt5) : List am_C := [.inr (5, kl_S_0 x), .inl (0, 240, qg5_kinds x), .inl (1, 240, qg5_signs x), .inl (0, 240, qg5_variables x), .inl (0, 240, qg5_places x), .inl (0, 240, qg5_turns x), .inl (0, 240, qg5_closes x), .inl (0, 240, qg5_codes x)]
theorem kp_S_0_count (x : qt5) (v : Int32) : (kw_S x).set 0 (.inr (5, (kl_S_0 x).set 7 (.inl v))) = (kw_S (qu5_count x v)) := rfl
theorem kp_S_0_templateLength (x : qt5) (v : Int32) : (kw_S x).set 0 (.inr (5, (kl_S_0 x).set 8 (.inl v))) = (kw_S (qu5_templateLength x v)) := rfl
theorem kp_S_0_kinds (x : qt5) (ix : Nat) (yv : Int32) : (kw_S x).set 1 (.inl (0, 240, upd (qg5_kinds x) ix yv)) = (kw_S (qa5_kinds x ix yv)) := rfl
theorem kp_S_0_signs (x : qt5) (ix : Nat) (yv : Int32) : (kw_S x).set 2 (.inl (1, 240, upd (qg5_signs x) ix yv)) = (kw_S (qa5_signs x ix yv)) := rfl
theorem kp_S_0_variables (x : qt5) (ix : Nat) (yv : Int32) : (kw_S x).set 3 (.inl (0, 240, upd (qg5_variables x) ix yv)) = (kw_S (qa5_variables x ix yv)) := rfl
theorem kp_S_0_places (x : qt5) (ix : Nat) (yv : Int32) : (kw_S x).set 4 (.inl (0, 240, upd (qg5_places x) ix yv)) = (kw_S (qa5_places x ix yv)) := rfl
theorem kp_S_0_turns (x : qt5) (ix : Nat) (yv : Int32) : (kw_S x).set 5 (.inl (0, 240, upd (qg5_turns x) ix yv)) = (kw_S (qa5_turns x ix yv)) := rfl
theorem kp_S_0_closes (x : qt5) (ix : Nat) (yv : Int32) : (kw_S x).set 6 (.inl (0, 240, upd (qg5_closes x) ix yv)) = (kw_S (qa5_closes x ix yv)) := rfl
theorem kp_S_0_codes (x : qt5) (ix : Nat) (yv : Int32) : (kw_S x).set 7 (.inl (0, 240, upd (qg5_codes x) ix yv)) = (kw_S (qa5_codes x ix yv)) := rfl
set_option maxRecDepth 100000 in
set_option maxHeartbeats 4000000 in
theorem kwl_S (x : qt5) : am_wl (kw_S x) 8 = true := rfl
def kl_C_0 (c : qt1) : List am_V := [.inl (qg1_name c), .inl (qg1_element c), .inl (qg1_quote c), .inl (qg1_kind c), .inl (qg1_part c)]
def kw_C (c : qt1) : List am_C := [.inr (1, kl_C_0 c)]
theorem kp_C_0_name (c : qt1) (v : Int32) : (kw_C c).set 0 (.inr (1, (kl_C_0 c).set 0 (.inl v))) = (kw_C (qu1_name c v)) := rfl
theorem kp_C_0_element (c : qt1) (v : Int32) : (kw_C c).set 0 (.inr (1, (kl_C_0 c).set 1 (.inl v))) = (kw_C (qu1_element c v)) := rfl
theorem kp_C_0_quote (c : qt1) (v : Int32) : (kw_C c).set 0 (.inr (1, (kl_C_0 c).set 2 (.inl v))) = (kw_C (qu1_quote c v)) := rfl
theorem kp_C_0_kind (c : qt1) (v : Int32) : (kw_C c).set 0 (.inr (1, (kl_C_0 c).set 3 (.inl v))) = (kw_C (qu1_kind c v)) := rfl
theorem kp_C_0_part (c : qt1) (v : Int32) : (kw_C c).set 0 (.inr (1, (kl_C_0 c).set 4 (.inl v))) = (kw_C (qu1_part c v)) := rfl
set_option maxRecDepth 100000 in
set_option maxHeartbeats 4000000 in
theorem kwl_C (c : qt1) : am_wl (kw_C c) 1 = true := rfl
def kl_ST_0 (x : qt5) : List am_V := [.inr (.inl 1), .inr (.inl 2), .inr (.inl 3), .inr (.inl 4), .inr (.inl 5), .inr (.inl 6), .inr (.inl 7), .inl (qg5_count x), .inl (qg5_templateLength x)]
def kl_ST_1 (t : qt6) : List am_V := [.inr (.inl 9), .inl (qg6_length t), .inl (qg6_spilled t)]
def kw_ST (x : qt5) (t : qt6) : List am_C := [.inr (5, kl_ST_0 x), .inl (0, 240, qg5_kinds x), .inl (1, 240, qg5_signs x), .inl (0, 240, qg5_variables x), .inl (0, 240, qg5_places x), .inl (0, 240, qg5_turns x), .inl (0, 240, qg5_closes x), .inl (0, 240, qg5_codes x), .inr (6, kl_ST_1 t), .inl (1, 240, qg6_chars t)]
theorem kp_ST_0_count (x : qt5) (t : qt6) (v : Int32) : (kw_ST x t).set 0 (.inr (5, (kl_ST_0 x).set 7 (.inl v))) = (kw_ST (qu5_count x v) t) := rfl
theorem kp_ST_0_templateLength (x : qt5) (t : qt6) (v : Int32) : (kw_ST x t).set 0 (.inr (5, (kl_ST_0 x).set 8 (.inl v))) = (kw_ST (qu5_templateLength x v) t) := rfl
theorem kp_ST_0_kinds (x : qt5) (t : qt6) (ix : Nat) (yv : Int32) : (kw_ST x t).set 1 (.inl (0, 240, upd (qg5_kinds x) ix yv)) = (kw_ST (qa5_kinds x ix yv) t) := rfl
theorem kp_ST_0_signs (x : qt5) (t : qt6) (ix : Nat) (yv : Int32) : (kw_ST x t).set 2 (.inl (1, 240, upd (qg5_signs x) ix yv)) = (kw_ST (qa5_signs x ix yv) t) := rfl
theorem kp_ST_0_variables (x : qt5) (t : qt6) (ix : Nat) (yv : Int32) : (kw_ST x t).set 3 (.inl (0, 240, upd (qg5_variables x) ix yv)) = (kw_ST (qa5_variables x ix yv) t) := rfl
theorem kp_ST_0_places (x : qt5) (t : qt6) (ix : Nat) (yv : Int32) : (kw_ST x t).set 4 (.inl (0, 240, upd (qg5_places x) ix yv)) = (kw_ST (qa5_places x ix yv) t) := rfl
theorem kp_ST_0_turns (x : qt5) (t : qt6) (ix : Nat) (yv : Int32) : (kw_ST x t).set 5 (.inl (0, 240, upd (qg5_turns x) ix yv)) = (kw_ST (qa5_turns x ix yv) t) := rfl
theorem kp_ST_0_closes (x : qt5) (t : qt6) (ix : Nat) (yv : Int32) : (kw_ST x t).set 6 (.inl (0, 240, upd (qg5_closes x) ix yv)) = (kw_ST (qa5_closes x ix yv) t) := rfl
theorem kp_ST_0_codes (x : qt5) (t : qt6) (ix : Nat) (yv : Int32) : (kw_ST x t).set 7 (.inl (0, 240, upd (qg5_codes x) ix yv)) = (kw_ST (qa5_codes x ix yv) t) := rfl
theorem kp_ST_1_length (x : qt5) (t : qt6) (v : Int32) : (kw_ST x t).set 8 (.inr (6, (kl_ST_1 t).set 1 (.inl v))) = (kw_ST x (qu6_length t v)) := rfl
theorem kp_ST_1_spilled (x : qt5) (t : qt6) (v : Int32) : (kw_ST x t).set 8 (.inr (6, (kl_ST_1 t).set 2 (.inl v))) = (kw_ST x (qu6_spilled t v)) := rfl
theorem kp_ST_1_chars (x : qt5) (t : qt6) (ix : Nat) (yv : Int32) : (kw_ST x t).set 9 (.inl (1, 240, upd (qg6_chars t) ix yv)) = (kw_ST x (qa6_chars t ix yv)) := rfl
set_option maxRecDepth 100000 in
set_option maxHeartbeats 4000000 in
theorem kwl_ST (x : qt5) (t : qt6) : am_wl (kw_ST x t) 10 = true := rfl
def kl_IT_0 (m : qt2) : List am_V := [.inr (.inl 1), .inr (.inl 2), .inr (.inl 3), .inr (.inl 4)]
def kl_IT_1 (t : qt6) : List am_V := [.inr (.inl 6), .inl (qg6_length t), .inl (qg6_spilled t)]
def kw_IT (m : qt2) (t : qt6) : List am_C := [.inr (2, kl_IT_0 m), .inl (1, 1280, qg2_chars m), .inl (0, 32, qg2_lengths m), .inl (0, 8, qg2_counts m), .inl (0, 8, qg2_alone m), .inr (6, kl_IT_1 t), .inl (1, 40, qg6_chars t)]
theorem kp_IT_0_chars (m : qt2) (t : qt6) (ix : Nat) (yv : Int32) : (kw_IT m t).set 1 (.inl (1, 1280, upd (qg2_chars m) ix yv)) = (kw_IT (qa2_chars m ix yv) t) := rfl
theorem kp_IT_0_lengths (m : qt2) (t : qt6) (ix : Nat) (yv : Int32) : (kw_IT m t).set 2 (.inl (0, 32, upd (qg2_lengths m) ix yv)) = (kw_IT (qa2_lengths m ix yv) t) := rfl
theorem kp_IT_0_counts (m : qt2) (t : qt6) (ix : Nat) (yv : Int32) : (kw_IT m t).set 3 (.inl (0, 8, upd (qg2_counts m) ix yv)) = (kw_IT (qa2_counts m ix yv) t) := rfl
theorem kp_IT_0_alone (m : qt2) (t : qt6) (ix : Nat) (yv : Int32) : (kw_IT m t).set 4 (.inl (0, 8, upd (qg2_alone m) ix yv)) = (kw_IT (qa2_alone m ix yv) t) := rfl
theorem kp_IT_1_length (m : qt2) (t : qt6) (v : Int32) : (kw_IT m t).set 5 (.inr (6, (kl_IT_1 t).set 1 (.inl v))) = (kw_IT m (qu6_length t v)) := rfl
theorem kp_IT_1_spilled (m : qt2) (t : qt6) (v : Int32) : (kw_IT m t).set 5 (.inr (6, (kl_IT_1 t).set 2 (.inl v))) = (kw_IT m (qu6_spilled t v)) := rfl
theorem kp_IT_1_chars (m : qt2) (t : qt6) (ix : Nat) (yv : Int32) : (kw_IT m t).set 6 (.inl (1, 40, upd (qg6_chars t) ix yv)) = (kw_IT m (qa6_chars t ix yv)) := rfl
set_option maxRecDepth 100000 in
set_option maxHeartbeats 4000000 in
theorem kwl_IT (m : qt2) (t : qt6) : am_wl (kw_IT m t) 7 = true := rfl
def kl_SC_0 (x : qt5) : List am_V := [.inr (.inl 1), .inr (.inl 2), .inr (.inl 3), .inr (.inl 4), .inr (.inl 5), .inr (.inl 6), .inr (.inl 7), .inl (qg5_count x), .inl (qg5_templateLength x)]
def kl_SC_1 (c : qt1) : List am_V := [.inl (qg1_name c), .inl (qg1_element c), .inl (qg1_quote c), .inl (qg1_kind c), .inl (qg1_part c)]
def kw_SC (x : qt5) (c : qt1) : List am_C := [.inr (5, kl_SC_0 x), .inl (0, 240, qg5_kinds x), .inl (1, 240, qg5_signs x), .inl (0, 240, qg5_variables x), .inl (0, 240, qg5_places x), .inl (0, 240, qg5_turns x), .inl (0, 240, qg5_closes x), .inl (0, 240, qg5_codes x), .inr (1, kl_SC_1 c)]
theorem kp_SC_0_count (x : qt5) (c : qt1) (v : Int32) : (kw_SC x c).set 0 (.inr (5, (kl_SC_0 x).set 7 (.inl v))) = (kw_SC (qu5_count x v) c) := rfl
theorem kp_SC_0_templateLength (x : qt5) (c : qt1) (v : Int32) : (kw_SC x c).set 0 (.inr (5, (kl_SC_0 x).set 8 (.inl v))) = (kw_SC (qu5_templateLength x v) c) := rfl
theorem kp_SC_0_kinds (x : qt5) (c : qt1) (ix : Nat) (yv : Int32) : (kw_SC x c).set 1 (.inl (0, 240, upd (qg5_kinds x) ix yv)) = (kw_SC (qa5_kinds x ix yv) c) := rfl
theorem kp_SC_0_signs (x : qt5) (c : qt1) (ix : Nat) (yv : Int32) : (kw_SC x c).set 2 (.inl (1, 240, upd (qg5_signs x) ix yv)) = (kw_SC (qa5_signs x ix yv) c) := rfl
theorem kp_SC_0_variables (x : qt5) (c : qt1) (ix : Nat) (yv : Int32) : (kw_SC x c).set 3 (.inl (0, 240, upd (qg5_variables x) ix yv)) = (kw_SC (qa5_variables x ix yv) c) := rfl
theorem kp_SC_0_places (x : qt5) (c : qt1) (ix : Nat) (yv : Int32) : (kw_SC x c).set 4 (.inl (0, 240, upd (qg5_places x) ix yv)) = (kw_SC (qa5_places x ix yv) c) := rfl
theorem kp_SC_0_turns (x : qt5) (c : qt1) (ix : Nat) (yv : Int32) : (kw_SC x c).set 5 (.inl (0, 240, upd (qg5_turns x) ix yv)) = (kw_SC (qa5_turns x ix yv) c) := rfl
theorem kp_SC_0_closes (x : qt5) (c : qt1) (ix : Nat) (yv : Int32) : (kw_SC x c).set 6 (.inl (0, 240, upd (qg5_closes x) ix yv)) = (kw_SC (qa5_closes x ix yv) c) := rfl
theorem kp_SC_0_codes (x : qt5) (c : qt1) (ix : Nat) (yv : Int32) : (kw_SC x c).set 7 (.inl (0, 240, upd (qg5_codes x) ix yv)) = (kw_SC (qa5_codes x ix yv) c) := rfl
theorem kp_SC_1_name (x : qt5) (c : qt1) (v : Int32) : (kw_SC x c).set 8 (.inr (1, (kl_SC_1 c).set 0 (.inl v))) = (kw_SC x (qu1_name c v)) := rfl
theorem kp_SC_1_element (x : qt5) (c : qt1) (v : Int32) : (kw_SC x c).set 8 (.inr (1, (kl_SC_1 c).set 1 (.inl v))) = (kw_SC x (qu1_element c v)) := rfl
theorem kp_SC_1_quote (x : qt5) (c : qt1) (v : Int32) : (kw_SC x c).set 8 (.inr (1, (kl_SC_1 c).set 2 (.inl v))) = (kw_SC x (qu1_quote c v)) := rfl
theorem kp_SC_1_kind (x : qt5) (c : qt1) (v : Int32) : (kw_SC x c).set 8 (.inr (1, (kl_SC_1 c).set 3 (.inl v))) = (kw_SC x (qu1_kind c v)) := rfl
theorem kp_SC_1_part (x : qt5) (c : qt1) (v : Int32) : (kw_SC x c).set 8 (.inr (1, (kl_SC_1 c).set 4 (.inl v))) = (kw_SC x (qu1_part c v)) := rfl
set_option maxRecDepth 100000 in
set_option maxHeartbeats 4000000 in
theorem kwl_SC (x : qt5) (c : qt1) : am_wl (kw_SC x c) 9 = true := rfl
def kl_P_0 (y : qt0) : List am_V := [.inr (.inl 5), .inr (.inl 13), .inr (.inl 1), .inr (.inl 2), .inr (.inl 3), .inr (.inl 4), .inl (qg0_openCount y), .inl (qg0_holeCount y), .inl (qg0_faultPlace y), .inl (qg0_compiled y)]
def kl_P_1 (x : qt5) : List am_V := [.inr (.inl 6), .inr (.inl 7), .inr (.inl 8), .inr (.inl 9), .inr (.inl 10), .inr (.inl 11), .inr (.inl 12), .inl (qg5_count x), .inl (qg5_templateLength x)]
def kl_P_2 (c : qt1) : List am_V := [.inl (qg1_name c), .inl (qg1_element c), .inl (qg1_quote c), .inl (qg1_kind c), .inl (qg1_part c)]
def kw_P (y : qt0) (x : qt5) (c : qt1) : List am_C := [.inr (0, kl_P_0 y), .inl (0, 240, qg0_holeCodes y), .inl (0, 6, qg0_openSymbols y), .inl (0, 6, qg0_openContexts y), .inl (0, 6, qg0_turnContexts y), .inr (5, kl_P_1 x), .inl (0, 240, qg5_kinds x), .inl (1, 240, qg5_signs x), .inl (0, 240, qg5_variables x), .inl (0, 240, qg5_places x), .inl (0, 240, qg5_turns x), .inl (0, 240, qg5_closes x), .inl (0, 240, qg5_codes x), .inr (1, kl_P_2 c)]
theorem kp_P_0_openCount (y : qt0) (x : qt5) (c : qt1) (v : Int32) : (kw_P y x c).set 0 (.inr (0, (kl_P_0 y).set 6 (.inl v))) = (kw_P (qu0_openCount y v) x c) := rfl
theorem kp_P_0_holeCount (y : qt0) (x : qt5) (c : qt1) (v : Int32) : (kw_P y x c).set 0 (.inr (0, (kl_P_0 y).set 7 (.inl v))) = (kw_P (qu0_holeCount y v) x c) := rfl
theorem kp_P_0_faultPlace (y : qt0) (x : qt5) (c : qt1) (v : Int32) : (kw_P y x c).set 0 (.inr (0, (kl_P_0 y).set 8 (.inl v))) = (kw_P (qu0_faultPlace y v) x c) := rfl
theorem kp_P_0_compiled (y : qt0) (x : qt5) (c : qt1) (v : Int32) : (kw_P y x c).set 0 (.inr (0, (kl_P_0 y).set 9 (.inl v))) = (kw_P (qu0_compiled y v) x c) := rfl
theorem kp_P_0_holeCodes (y : qt0) (x : qt5) (c : qt1) (ix : Nat) (yv : Int32) : (kw_P y x c).set 1 (.inl (0, 240, upd (qg0_holeCodes y) ix yv)) = (kw_P (qa0_holeCodes y ix yv) x c) := rfl
theorem kp_P_0_openSymbols (y : qt0) (x : qt5) (c : qt1) (ix : Nat) (yv : Int32) : (kw_P y x c).set 2 (.inl (0, 6, upd (qg0_openSymbols y) ix yv)) = (kw_P (qa0_openSymbols y ix yv) x c) := rfl
theorem kp_P_0_openContexts (y : qt0) (x : qt5) (c : qt1) (ix : Nat) (yv : Int32) : (kw_P y x c).set 3 (.inl (0, 6, upd (qg0_openContexts y) ix yv)) = (kw_P (qa0_openContexts y ix yv) x c) := rfl
theorem kp_P_0_turnContexts (y : qt0) (x : qt5) (c : qt1) (ix : Nat) (yv : Int32) : (kw_P y x c).set 4 (.inl (0, 6, upd (qg0_turnContexts y) ix yv)) = (kw_P (qa0_turnContexts y ix yv) x c) := rfl
theorem kp_P_1_count (y : qt0) (x : qt5) (c : qt1) (v : Int32) : (kw_P y x c).set 5 (.inr (5, (kl_P_1 x).set 7 (.inl v))) = (kw_P y (qu5_count x v) c) := rfl
theorem kp_P_1_templateLength (y : qt0) (x : qt5) (c : qt1) (v : Int32) : (kw_P y x c).set 5 (.inr (5, (kl_P_1 x).set 8 (.inl v))) = (kw_P y (qu5_templateLength x v) c) := rfl
theorem kp_P_1_kinds (y : qt0) (x : qt5) (c : qt1) (ix : Nat) (yv : Int32) : (kw_P y x c).set 6 (.inl (0, 240, upd (qg5_kinds x) ix yv)) = (kw_P y (qa5_kinds x ix yv) c) := rfl
theorem kp_P_1_signs (y : qt0) (x : qt5) (c : qt1) (ix : Nat) (yv : Int32) : (kw_P y x c).set 7 (.inl (1, 240, upd (qg5_signs x) ix yv)) = (kw_P y (qa5_signs x ix yv) c) := rfl
theorem kp_P_1_variables (y : qt0) (x : qt5) (c : qt1) (ix : Nat) (yv : Int32) : (kw_P y x c).set 8 (.inl (0, 240, upd (qg5_variables x) ix yv)) = (kw_P y (qa5_variables x ix yv) c) := rfl
theorem kp_P_1_places (y : qt0) (x : qt5) (c : qt1) (ix : Nat) (yv : Int32) : (kw_P y x c).set 9 (.inl (0, 240, upd (qg5_places x) ix yv)) = (kw_P y (qa5_places x ix yv) c) := rfl
theorem kp_P_1_turns (y : qt0) (x : qt5) (c : qt1) (ix : Nat) (yv : Int32) : (kw_P y x c).set 10 (.inl (0, 240, upd (qg5_turns x) ix yv)) = (kw_P y (qa5_turns x ix yv) c) := rfl
theorem kp_P_1_closes (y : qt0) (x : qt5) (c : qt1) (ix : Nat) (yv : Int32) : (kw_P y x c).set 11 (.inl (0, 240, upd (qg5_closes x) ix yv)) = (kw_P y (qa5_closes x ix yv) c) := rfl
theorem kp_P_1_codes (y : qt0) (x : qt5) (c : qt1) (ix : Nat) (yv : Int32) : (kw_P y x c).set 12 (.inl (0, 240, upd (qg5_codes x) ix yv)) = (kw_P y (qa5_codes x ix yv) c) := rfl
theorem kp_P_2_name (y : qt0) (x : qt5) (c : qt1) (v : Int32) : (kw_P y x c).set 13 (.inr (1, (kl_P_2 c).set 0 (.inl v))) = (kw_P y x (qu1_name c v)) := rfl
theorem kp_P_2_element (y : qt0) (x : qt5) (c : qt1) (v : Int32) : (kw_P y x c).set 13 (.inr (1, (kl_P_2 c).set 1 (.inl v))) = (kw_P y x (qu1_element c v)) := rfl
theorem kp_P_2_quote (y : qt0) (x : qt5) (c : qt1) (v : Int32) : (kw_P y x c).set 13 (.inr (1, (kl_P_2 c).set 2 (.inl v))) = (kw_P y x (qu1_quote c v)) := rfl
theorem kp_P_2_kind (y : qt0) (x : qt5) (c : qt1) (v : Int32) : (kw_P y x c).set 13 (.inr (1, (kl_P_2 c).set 3 (.inl v))) = (kw_P y x (qu1_kind c v)) := rfl
theorem kp_P_2_part (y : qt0) (x : qt5) (c : qt1) (v : Int32) : (kw_P y x c).set 13 (.inr (1, (kl_P_2 c).set 4 (.inl v))) = (kw_P y x (qu1_part c v)) := rfl
set_option maxRecDepth 100000 in
set_option maxHeartbeats 4000000 in
theorem kwl_P (y : qt0) (x : qt5) (c : qt1) : am_wl (kw_P y x c) 14 = true := rfl
def kl_PT_0 (y : qt0) : List am_V := [.inr (.inl 5), .inr (.inl 13), .inr (.inl 1), .inr (.inl 2), .inr (.inl 3), .inr (.inl 4), .inl (qg0_openCount y), .inl (qg0_holeCount y), .inl (qg0_faultPlace y), .inl (qg0_compiled y)]
def kl_PT_1 (x : qt5) : List am_V := [.inr (.inl 6), .inr (.inl 7), .inr (.inl 8), .inr (.inl 9), .inr (.inl 10), .inr (.inl 11), .inr (.inl 12), .inl (qg5_count x), .inl (qg5_templateLength x)]
def kl_PT_2 (c : qt1) : List am_V := [.inl (qg1_name c), .inl (qg1_element c), .inl (qg1_quote c), .inl (qg1_kind c), .inl (qg1_part c)]
def kl_PT_3 (t : qt6) : List am_V := [.inr (.inl 15), .inl (qg6_length t), .inl (qg6_spilled t)]
def kw_PT (y : qt0) (x : qt5) (c : qt1) (t : qt6) : List am_C := [.inr (0, kl_PT_0 y), .inl (0, 240, qg0_holeCodes y), .inl (0, 6, qg0_openSymbols y), .inl (0, 6, qg0_openContexts y), .inl (0, 6, qg0_turnContexts y), .inr (5, kl_PT_1 x), .inl (0, 240, qg5_kinds x), .inl (1, 240, qg5_signs x), .inl (0, 240, qg5_variables x), .inl (0, 240, qg5_places x), .inl (0, 240, qg5_turns x), .inl (0, 240, qg5_closes x), .inl (0, 240, qg5_codes x), .inr (1, kl_PT_2 c), .inr (6, kl_PT_3 t), .inl (1, 240, qg6_chars t)]
theorem kp_PT_0_openCount (y : qt0) (x : qt5) (c : qt1) (t : qt6) (v : Int32) : (kw_PT y x c t).set 0 (.inr (0, (kl_PT_0 y).set 6 (.inl v))) = (kw_PT (qu0_openCount y v) x c t) := rfl
theorem kp_PT_0_holeCount (y : qt0) (x : qt5) (c : qt1) (t : qt6) (v : Int32) : (kw_PT y x c t).set 0 (.inr (0, (kl_PT_0 y).set 7 (.inl v))) = (kw_PT (qu0_holeCount y v) x c t) := rfl
theorem kp_PT_0_faultPlace (y : qt0) (x : qt5) (c : qt1) (t : qt6) (v : Int32) : (kw_PT y x c t).set 0 (.inr (0, (kl_PT_0 y).set 8 (.inl v))) = (kw_PT (qu0_faultPlace y v) x c t) := rfl
theorem kp_PT_0_compiled (y : qt0) (x : qt5) (c : qt1) (t : qt6) (v : Int32) : (kw_PT y x c t).set 0 (.inr (0, (kl_PT_0 y).set 9 (.inl v))) = (kw_PT (qu0_compiled y v) x c t) := rfl
theorem kp_PT_0_holeCodes (y : qt0) (x : qt5) (c : qt1) (t : qt6) (ix : Nat) (yv : Int32) : (kw_PT y x c t).set 1 (.inl (0, 240, upd (qg0_holeCodes y) ix yv)) = (kw_PT (qa0_holeCodes y ix yv) x c t) := rfl
theorem kp_PT_0_openSymbols (y : qt0) (x : qt5) (c : qt1) (t : qt6) (ix : Nat) (yv : Int32) : (kw_PT y x c t).set 2 (.inl (0, 6, upd (qg0_openSymbols y) ix yv)) = (kw_PT (qa0_openSymbols y ix yv) x c t) := rfl
theorem kp_PT_0_openContexts (y : qt0) (x : qt5) (c : qt1) (t : qt6) (ix : Nat) (yv : Int32) : (kw_PT y x c t).set 3 (.inl (0, 6, upd (qg0_openContexts y) ix yv)) = (kw_PT (qa0_openContexts y ix yv) x c t) := rfl
theorem kp_PT_0_turnContexts (y : qt0) (x : qt5) (c : qt1) (t : qt6) (ix : Nat) (yv : Int32) : (kw_PT y x c t).set 4 (.inl (0, 6, upd (qg0_turnContexts y) ix yv)) = (kw_PT (qa0_turnContexts y ix yv) x c t) := rfl
theorem kp_PT_1_count (y : qt0) (x : qt5) (c : qt1) (t : qt6) (v : Int32) : (kw_PT y x c t).set 5 (.inr (5, (kl_PT_1 x).set 7 (.inl v))) = (kw_PT y (qu5_count x v) c t) := rfl
theorem kp_PT_1_templateLength (y : qt0) (x : qt5) (c : qt1) (t : qt6) (v : Int32) : (kw_PT y x c t).set 5 (.inr (5, (kl_PT_1 x).set 8 (.inl v))) = (kw_PT y (qu5_templateLength x v) c t) := rfl
theorem kp_PT_1_kinds (y : qt0) (x : qt5) (c : qt1) (t : qt6) (ix : Nat) (yv : Int32) : (kw_PT y x c t).set 6 (.inl (0, 240, upd (qg5_kinds x) ix yv)) = (kw_PT y (qa5_kinds x ix yv) c t) := rfl
theorem kp_PT_1_signs (y : qt0) (x : qt5) (c : qt1) (t : qt6) (ix : Nat) (yv : Int32) : (kw_PT y x c t).set 7 (.inl (1, 240, upd (qg5_signs x) ix yv)) = (kw_PT y (qa5_signs x ix yv) c t) := rfl
theorem kp_PT_1_variables (y : qt0) (x : qt5) (c : qt1) (t : qt6) (ix : Nat) (yv : Int32) : (kw_PT y x c t).set 8 (.inl (0, 240, upd (qg5_variables x) ix yv)) = (kw_PT y (qa5_variables x ix yv) c t) := rfl
theorem kp_PT_1_places (y : qt0) (x : qt5) (c : qt1) (t : qt6) (ix : Nat) (yv : Int32) : (kw_PT y x c t).set 9 (.inl (0, 240, upd (qg5_places x) ix yv)) = (kw_PT y (qa5_places x ix yv) c t) := rfl
theorem kp_PT_1_turns (y : qt0) (x : qt5) (c : qt1) (t : qt6) (ix : Nat) (yv : Int32) : (kw_PT y x c t).set 10 (.inl (0, 240, upd (qg5_turns x) ix yv)) = (kw_PT y (qa5_turns x ix yv) c t) := rfl
theorem kp_PT_1_closes (y : qt0) (x : qt5) (c : qt1) (t : qt6) (ix : Nat) (yv : Int32) : (kw_PT y x c t).set 11 (.inl (0, 240, upd (qg5_closes x) ix yv)) = (kw_PT y (qa5_closes x ix yv) c t) := rfl
theorem kp_PT_1_codes (y : qt0) (x : qt5) (c : qt1) (t : qt6) (ix : Nat) (yv : Int32) : (kw_PT y x c t).set 12 (.inl (0, 240, upd (qg5_codes x) ix yv)) = (kw_PT y (qa5_codes x ix yv) c t) := rfl
theorem kp_PT_2_name (y : qt0) (x : qt5) (c : qt1) (t : qt6) (v : Int32) : (kw_PT y x c t).set 13 (.inr (1, (kl_PT_2 c).set 0 (.inl v))) = (kw_PT y x (qu1_name c v) t) := rfl
theorem kp_PT_2_element (y : qt0) (x : qt5) (c : qt1) (t : qt6) (v : Int32) : (kw_PT y x c t).set 13 (.inr (1, (kl_PT_2 c).set 1 (.inl v))) = (kw_PT y x (qu1_element c v) t) := rfl
theorem kp_PT_2_quote (y : qt0) (x : qt5) (c : qt1) (t : qt6) (v : Int32) : (kw_PT y x c t).set 13 (.inr (1, (kl_PT_2 c).set 2 (.inl v))) = (kw_PT y x (qu1_quote c v) t) := rfl
theorem kp_PT_2_kind (y : qt0) (x : qt5) (c : qt1) (t : qt6) (v : Int32) : (kw_PT y x c t).set 13 (.inr (1, (kl_PT_2 c).set 3 (.inl v))) = (kw_PT y x (qu1_kind c v) t) := rfl
theorem kp_PT_2_part (y : qt0) (x : qt5) (c : qt1) (t : qt6) (v : Int32) : (kw_PT y x c t).set 13 (.inr (1, (kl_PT_2 c).set 4 (.inl v))) = (kw_PT y x (qu1_part c v) t) := rfl
theorem kp_PT_3_length (y : qt0) (x : qt5) (c : qt1) (t : qt6) (v : Int32) : (kw_PT y x c t).set 14 (.inr (6, (kl_PT_3 t).set 1 (.inl v))) = (kw_PT y x c (qu6_length t v)) := rfl
theorem kp_PT_3_spilled (y : qt0) (x : qt5) (c : qt1) (t : qt6) (v : Int32) : (kw_PT y x c t).set 14 (.inr (6, (kl_PT_3 t).set 2 (.inl v))) = (kw_PT y x c (qu6_spilled t v)) := rfl
theorem kp_PT_3_chars (y : qt0) (x : qt5) (c : qt1) (t : qt6) (ix : Nat) (yv : Int32) : (kw_PT y x c t).set 15 (.inl (1, 240, upd (qg6_chars t) ix yv)) = (kw_PT y x c (qa6_chars t ix yv)) := rfl
set_option maxRecDepth 100000 in
set_option maxHeartbeats 4000000 in
theorem kwl_PT (y : qt0) (x : qt5) (c : qt1) (t : qt6) : am_wl (kw_PT y x c t) 16 = true := rfl
def kl_TI_0 (t : qt6) : List am_V := [.inr (.inl 1), .inl (qg6_length t), .inl (qg6_spilled t)]
def kl_TI_1 (m : qt2) : List am_V := [.inr (.inl 3), .inr (.inl 4), .inr (.inl 5), .inr (.inl 6)]
def kw_TI (t : qt6) (m : qt2) : List am_C := [.inr (6, kl_TI_0 t), .inl (1, 1000, qg6_chars t), .inr (2, kl_TI_1 m), .inl (1, 1280, qg2_chars m), .inl (0, 32, qg2_lengths m), .inl (0, 8, qg2_counts m), .inl (0, 8, qg2_alone m)]
theorem kp_TI_0_length (t : qt6) (m : qt2) (v : Int32) : (kw_TI t m).set 0 (.inr (6, (kl_TI_0 t).set 1 (.inl v))) = (kw_TI (qu6_length t v) m) := rfl
theorem kp_TI_0_spilled (t : qt6) (m : qt2) (v : Int32) : (kw_TI t m).set 0 (.inr (6, (kl_TI_0 t).set 2 (.inl v))) = (kw_TI (qu6_spilled t v) m) := rfl
theorem kp_TI_0_chars (t : qt6) (m : qt2) (ix : Nat) (yv : Int32) : (kw_TI t m).set 1 (.inl (1, 1000, upd (qg6_chars t) ix yv)) = (kw_TI (qa6_chars t ix yv) m) := rfl
theorem kp_TI_1_chars (t : qt6) (m : qt2) (ix : Nat) (yv : Int32) : (kw_TI t m).set 3 (.inl (1, 1280, upd (qg2_chars m) ix yv)) = (kw_TI t (qa2_chars m ix yv)) := rfl
theorem kp_TI_1_lengths (t : qt6) (m : qt2) (ix : Nat) (yv : Int32) : (kw_TI t m).set 4 (.inl (0, 32, upd (qg2_lengths m) ix yv)) = (kw_TI t (qa2_lengths m ix yv)) := rfl
theorem kp_TI_1_counts (t : qt6) (m : qt2) (ix : Nat) (yv : Int32) : (kw_TI t m).set 5 (.inl (0, 8, upd (qg2_counts m) ix yv)) = (kw_TI t (qa2_counts m ix yv)) := rfl
theorem kp_TI_1_alone (t : qt6) (m : qt2) (ix : Nat) (yv : Int32) : (kw_TI t m).set 6 (.inl (0, 8, upd (qg2_alone m) ix yv)) = (kw_TI t (qa2_alone m ix yv)) := rfl
set_option maxRecDepth 100000 in
set_option maxHeartbeats 4000000 in
theorem kwl_TI (t : qt6) (m : qt2) : am_wl (kw_TI t m) 7 = true := rfl
def kl_W_0 : List am_V := [.inr (.inl 1)]
def kl_W_1 (t : qt6) : List am_V := [.inr (.inl 2), .inl (qg6_length t), .inl (qg6_spilled t)]
def kl_W_2 (x : qt5) : List am_V := [.inr (.inl 4), .inr (.inl 5), .inr (.inl 6), .inr (.inl 7), .inr (.inl 8), .inr (.inl 9), .inr (.inl 10), .inl (qg5_count x), .inl (qg5_templateLength x)]
def kl_W_3 (m : qt2) : List am_V := [.inr (.inl 12), .inr (.inl 13), .inr (.inl 14), .inr (.inl 15)]
def kw_W (t : qt6) (x : qt5) (m : qt2) : List am_C := [.inr (8, kl_W_0), .inr (6, kl_W_1 t), .inl (1, 1000, qg6_chars t), .inr (5, kl_W_2 x), .inl (0, 240, qg5_kinds x), .inl (1, 240, qg5_signs x), .inl (0, 240, qg5_variables x), .inl (0, 240, qg5_places x), .inl (0, 240, qg5_turns x), .inl (0, 240, qg5_closes x), .inl (0, 240, qg5_codes x), .inr (2, kl_W_3 m), .inl (1, 1280, qg2_chars m), .inl (0, 32, qg2_lengths m), .inl (0, 8, qg2_counts m), .inl (0, 8, qg2_alone m)]
theorem kp_W_1_length (t : qt6) (x : qt5) (m : qt2) (v : Int32) : (kw_W t x m).set 1 (.inr (6, (kl_W_1 t).set 1 (.inl v))) = (kw_W (qu6_length t v) x m) := rfl
theorem kp_W_1_spilled (t : qt6) (x : qt5) (m : qt2) (v : Int32) : (kw_W t x m).set 1 (.inr (6, (kl_W_1 t).set 2 (.inl v))) = (kw_W (qu6_spilled t v) x m) := rfl
theorem kp_W_1_chars (t : qt6) (x : qt5) (m : qt2) (ix : Nat) (yv : Int32) : (kw_W t x m).set 2 (.inl (1, 1000, upd (qg6_chars t) ix yv)) = (kw_W (qa6_chars t ix yv) x m) := rfl
theorem kp_W_2_count (t : qt6) (x : qt5) (m : qt2) (v : Int32) : (kw_W t x m).set 3 (.inr (5, (kl_W_2 x).set 7 (.inl v))) = (kw_W t (qu5_count x v) m) := rfl
theorem kp_W_2_templateLength (t : qt6) (x : qt5) (m : qt2) (v : Int32) : (kw_W t x m).set 3 (.inr (5, (kl_W_2 x).set 8 (.inl v))) = (kw_W t (qu5_templateLength x v) m) := rfl
theorem kp_W_2_kinds (t : qt6) (x : qt5) (m : qt2) (ix : Nat) (yv : Int32) : (kw_W t x m).set 4 (.inl (0, 240, upd (qg5_kinds x) ix yv)) = (kw_W t (qa5_kinds x ix yv) m) := rfl
theorem kp_W_2_signs (t : qt6) (x : qt5) (m : qt2) (ix : Nat) (yv : Int32) : (kw_W t x m).set 5 (.inl (1, 240, upd (qg5_signs x) ix yv)) = (kw_W t (qa5_signs x ix yv) m) := rfl
theorem kp_W_2_variables (t : qt6) (x : qt5) (m : qt2) (ix : Nat) (yv : Int32) : (kw_W t x m).set 6 (.inl (0, 240, upd (qg5_variables x) ix yv)) = (kw_W t (qa5_variables x ix yv) m) := rfl
theorem kp_W_2_places (t : qt6) (x : qt5) (m : qt2) (ix : Nat) (yv : Int32) : (kw_W t x m).set 7 (.inl (0, 240, upd (qg5_places x) ix yv)) = (kw_W t (qa5_places x ix yv) m) := rfl
theorem kp_W_2_turns (t : qt6) (x : qt5) (m : qt2) (ix : Nat) (yv : Int32) : (kw_W t x m).set 8 (.inl (0, 240, upd (qg5_turns x) ix yv)) = (kw_W t (qa5_turns x ix yv) m) := rfl
theorem kp_W_2_closes (t : qt6) (x : qt5) (m : qt2) (ix : Nat) (yv : Int32) : (kw_W t x m).set 9 (.inl (0, 240, upd (qg5_closes x) ix yv)) = (kw_W t (qa5_closes x ix yv) m) := rfl
theorem kp_W_2_codes (t : qt6) (x : qt5) (m : qt2) (ix : Nat) (yv : Int32) : (kw_W t x m).set 10 (.inl (0, 240, upd (qg5_codes x) ix yv)) = (kw_W t (qa5_codes x ix yv) m) := rfl
theorem kp_W_3_chars (t : qt6) (x : qt5) (m : qt2) (ix : Nat) (yv : Int32) : (kw_W t x m).set 12 (.inl (1, 1280, upd (qg2_chars m) ix yv)) = (kw_W t x (qa2_chars m ix yv)) := rfl
theorem kp_W_3_lengths (t : qt6) (x : qt5) (m : qt2) (ix : Nat) (yv : Int32) : (kw_W t x m).set 13 (.inl (0, 32, upd (qg2_lengths m) ix yv)) = (kw_W t x (qa2_lengths m ix yv)) := rfl
theorem kp_W_3_counts (t : qt6) (x : qt5) (m : qt2) (ix : Nat) (yv : Int32) : (kw_W t x m).set 14 (.inl (0, 8, upd (qg2_counts m) ix yv)) = (kw_W t x (qa2_counts m ix yv)) := rfl
theorem kp_W_3_alone (t : qt6) (x : qt5) (m : qt2) (ix : Nat) (yv : Int32) : (kw_W t x m).set 15 (.inl (0, 8, upd (qg2_alone m) ix yv)) = (kw_W t x (qa2_alone m ix yv)) := rfl
set_option maxRecDepth 100000 in
set_option maxHeartbeats 4000000 in
theorem kwl_W (t : qt6) (x : qt5) (m : qt2) : am_wl (kw_W t x m) 16 = true := rfl
set_option maxRecDepth 100000 in
set_option maxHeartbeats 4000000 in
theorem ks_PT_ST_1_3_o (y : qt0) (x : qt5) (c : qt1) (t : qt6) : am_sow (kw_PT y x c t) [5, 6, 7, 8, 9, 10, 11, 12, 14, 15] = true := rfl
set_option maxRecDepth 100000 in
set_option maxHeartbeats 4000000 in
theorem ks_PT_ST_1_3_s (y : qt0) (x : qt5) (c : qt1) (t : qt6) : am_sub (kw_PT y x c t) [5, 6, 7, 8, 9, 10, 11, 12, 14, 15] = (kw_ST x t) := rfl
set_option maxRecDepth 100000 in
set_option maxHeartbeats 4000000 in
theorem ks_PT_ST_1_3_m (y : qt0) (x : qt5) (c : qt1) (t : qt6) (z0 : qt5) (z1 : qt6) : am_mix (kw_PT y x c t) [5, 6, 7, 8, 9, 10, 11, 12, 14, 15] (kw_ST z0 z1) = (kw_PT y z0 c z1) := rfl
set_option maxRecDepth 100000 in
set_option maxHeartbeats 4000000 in
theorem ks_PT_C_2_o (y : qt0) (x : qt5) (c : qt1) (t : qt6) : am_sow (kw_PT y x c t) [13] = true := rfl
set_option maxRecDepth 100000 in
set_option maxHeartbeats 4000000 in
theorem ks_PT_C_2_s (y : qt0) (x : qt5) (c : qt1) (t : qt6) : am_sub (kw_PT y x c t) [13] = (kw_C c) := rfl
set_option maxRecDepth 100000 in
set_option maxHeartbeats 4000000 in
theorem ks_PT_C_2_m (y : qt0) (x : qt5) (c : qt1) (t : qt6) (z0 : qt1) : am_mix (kw_PT y x c t) [13] (kw_C z0) = (kw_PT y x z0 t) := rfl
set_option maxRecDepth 100000 in
set_option maxHeartbeats 4000000 in
theorem ks_PT_S_1_o (y : qt0) (x : qt5) (c : qt1) (t : qt6) : am_sow (kw_PT y x c t) [5, 6, 7, 8, 9, 10, 11, 12] = true := rfl
set_option maxRecDepth 100000 in
set_option maxHeartbeats 4000000 in
theorem ks_PT_S_1_s (y : qt0) (x : qt5) (c : qt1) (t : qt6) : am_sub (kw_PT y x c t) [5, 6, 7, 8, 9, 10, 11, 12] = (kw_S x) := rfl
set_option maxRecDepth 100000 in
set_option maxHeartbeats 4000000 in
theorem ks_PT_S_1_m (y : qt0) (x : qt5) (c : qt1) (t : qt6) (z0 : qt5) : am_mix (kw_PT y x c t) [5, 6, 7, 8, 9, 10, 11, 12] (kw_S z0) = (kw_PT y z0 c t) := rfl
set_option maxRecDepth 100000 in
set_option maxHeartbeats 4000000 in
theorem ks_PT_SC_1_2_o (y : qt0) (x : qt5) (c : qt1) (t : qt6) : am_sow (kw_PT y x c t) [5, 6, 7, 8, 9, 10, 11, 12, 13] = true := rfl
set_option maxRecDepth 100000 in
set_option maxHeartbeats 4000000 in
theorem ks_PT_SC_1_2_s (y : qt0) (x : qt5) (c : qt1) (t : qt6) : am_sub (kw_PT y x c t) [5, 6, 7, 8, 9, 10, 11, 12, 13] = (kw_SC x c) := rfl
set_option maxRecDepth 100000 in
set_option maxHeartbeats 4000000 in
theorem ks_PT_SC_1_2_m (y : qt0) (x : qt5) (c : qt1) (t : qt6) (z0 : qt5) (z1 : qt1) : am_mix (kw_PT y x c t) [5, 6, 7, 8, 9, 10, 11, 12, 13] (kw_SC z0 z1) = (kw_PT y z0 z1 t) := rfl
set_option maxRecDepth 100000 in
set_option maxHeartbeats 4000000 in
theorem ks_PT_P_0_1_2_o (y : qt0) (x : qt5) (c : qt1) (t : qt6) : am_sow (kw_PT y x c t) [0, 1, 2, 3, 4, 5, 6, 7, 8, 9, 10, 11, 12, 13] = true := rfl
set_option maxRecDepth 100000 in
set_option maxHeartbeats 4000000 in
theorem ks_PT_P_0_1_2_s (y : qt0) (x : qt5) (c : qt1) (t : qt6) : am_sub (kw_PT y x c t) [0, 1, 2, 3, 4, 5, 6, 7, 8, 9, 10, 11, 12, 13] = (kw_P y x c) := rfl
set_option maxRecDepth 100000 in
set_option maxHeartbeats 4000000 in
theorem ks_PT_P_0_1_2_m (y : qt0) (x : qt5) (c : qt1) (t : qt6) (z0 : qt0) (z1 : qt5) (z2 : qt1) : am_mix (kw_PT y x c t) [0, 1, 2, 3, 4, 5, 6, 7, 8, 9, 10, 11, 12, 13] (kw_P z0 z1 z2) = (kw_PT z0 z1 z2 t) := rfl
set_option maxRecDepth 100000 in
set_option maxHeartbeats 4000000 in
theorem ks_P_S_1_o (y : qt0) (x : qt5) (c : qt1) : am_sow (kw_P y x c) [5, 6, 7, 8, 9, 10, 11, 12] = true := rfl
set_option maxRecDepth 100000 in
set_option maxHeartbeats 4000000 in
theorem ks_P_S_1_s (y : qt0) (x : qt5) (c : qt1) : am_sub (kw_P y x c) [5, 6, 7, 8, 9, 10, 11, 12] = (kw_S x) := rfl
set_option maxRecDepth 100000 in
set_option maxHeartbeats 4000000 in
theorem ks_P_S_1_m (y : qt0) (x : qt5) (c : qt1) (z0 : qt5) : am_mix (kw_P y x c) [5, 6, 7, 8, 9, 10, 11, 12] (kw_S z0) = (kw_P y z0 c) := rfl
set_option maxRecDepth 100000 in
set_option maxHeartbeats 4000000 in
theorem ks_P_C_2_o (y : qt0) (x : qt5) (c : qt1) : am_sow (kw_P y x c) [13] = true := rfl
set_option maxRecDepth 100000 in
set_option maxHeartbeats 4000000 in
theorem ks_P_C_2_s (y : qt0) (x : qt5) (c : qt1) : am_sub (kw_P y x c) [13] = (kw_C c) := rfl
set_option maxRecDepth 100000 in
set_option maxHeartbeats 4000000 in
theorem ks_P_C_2_m (y : qt0) (x : qt5) (c : qt1) (z0 : qt1) : am_mix (kw_P y x c) [13] (kw_C z0) = (kw_P y x z0) := rfl
set_option maxRecDepth 100000 in
set_option maxHeartbeats 4000000 in
theorem ks_IT_I_0_o (m : qt2) (t : qt6) : am_sow (kw_IT m t) [0, 1, 2, 3, 4] = true := rfl
set_option maxRecDepth 100000 in
set_option maxHeartbeats 4000000 in
theorem ks_IT_I_0_s (m : qt2) (t : qt6) : am_sub (kw_IT m t) [0, 1, 2, 3, 4] = (kw_I m) := rfl
set_option maxRecDepth 100000 in
set_option maxHeartbeats 4000000 in
theorem ks_IT_I_0_m (m : qt2) (t : qt6) (z0 : qt2) : am_mix (kw_IT m t) [0, 1, 2, 3, 4] (kw_I z0) = (kw_IT z0 t) := rfl
set_option maxRecDepth 100000 in
set_option maxHeartbeats 4000000 in
theorem ks_IT_T_1_o (m : qt2) (t : qt6) : am_sow (kw_IT m t) [5, 6] = true := rfl
set_option maxRecDepth 100000 in
set_option maxHeartbeats 4000000 in
theorem ks_IT_T_1_s (m : qt2) (t : qt6) : am_sub (kw_IT m t) [5, 6] = (kw_T 40 t) := rfl
set_option maxRecDepth 100000 in
set_option maxHeartbeats 4000000 in
theorem ks_IT_T_1_m (m : qt2) (t : qt6) (z0 : qt6) : am_mix (kw_IT m t) [5, 6] (kw_T 40 z0) = (kw_IT m z0) := rfl
set_option maxRecDepth 100000 in
set_option maxHeartbeats 4000000 in
theorem ks_SC_S_0_o (x : qt5) (c : qt1) : am_sow (kw_SC x c) [0, 1, 2, 3, 4, 5, 6, 7] = true := rfl
set_option maxRecDepth 100000 in
set_option maxHeartbeats 4000000 in
theorem ks_SC_S_0_s (x : qt5) (c : qt1) : am_sub (kw_SC x c) [0, 1, 2, 3, 4, 5, 6, 7] = (kw_S x) := rfl
set_option maxRecDepth 100000 in
set_option maxHeartbeats 4000000 in
theorem ks_SC_S_0_m (x : qt5) (c : qt1) (z0 : qt5) : am_mix (kw_SC x c) [0, 1, 2, 3, 4, 5, 6, 7] (kw_S z0) = (kw_SC z0 c) := rfl
set_option maxRecDepth 100000 in
set_option maxHeartbeats 4000000 in
theorem ks_SC_C_1_o (x : qt5) (c : qt1) : am_sow (kw_SC x c) [8] = true := rfl
set_option maxRecDepth 100000 in
set_option maxHeartbeats 4000000 in
theorem ks_SC_C_1_s (x : qt5) (c : qt1) : am_sub (kw_SC x c) [8] = (kw_C c) := rfl
set_option maxRecDepth 100000 in
set_option maxHeartbeats 4000000 in
theorem ks_SC_C_1_m (x : qt5) (c : qt1) (z0 : qt1) : am_mix (kw_SC x c) [8] (kw_C z0) = (kw_SC x z0) := rfl
set_option maxRecDepth 100000 in
set_option maxHeartbeats 4000000 in
theorem ks_ST_T_1_o (x : qt5) (t : qt6) : am_sow (kw_ST x t) [8, 9] = true := rfl
set_option maxRecDepth 100000 in
set_option maxHeartbeats 4000000 in
theorem ks_ST_T_1_s (x : qt5) (t : qt6) : am_sub (kw_ST x t) [8, 9] = (kw_T 240 t) := rfl
set_option maxRecDepth 100000 in
set_option maxHeartbeats 4000000 in
theorem ks_ST_T_1_m (x : qt5) (t : qt6) (z0 : qt6) : am_mix (kw_ST x t) [8, 9] (kw_T 240 z0) = (kw_ST x z0) := rfl
set_option maxRecDepth 100000 in
set_option maxHeartbeats 4000000 in
theorem ks_ST_S_0_o (x : qt5) (t : qt6) : am_sow (kw_ST x t) [0, 1, 2, 3, 4, 5, 6, 7] = true := rfl
set_option maxRecDepth 100000 in
set_option maxHeartbeats 4000000 in
theorem ks_ST_S_0_s (x : qt5) (t : qt6) : am_sub (kw_ST x t) [0, 1, 2, 3, 4, 5, 6, 7] = (kw_S x) := rfl
set_option maxRecDepth 100000 in
set_option maxHeartbeats 4000000 in
theorem ks_ST_S_0_m (x : qt5) (t : qt6) (z0 : qt5) : am_mix (kw_ST x t) [0, 1, 2, 3, 4, 5, 6, 7] (kw_S z0) = (kw_ST z0 t) := rfl
set_option maxRecDepth 100000 in
set_option maxHeartbeats 4000000 in
theorem ks_TI_I_1_o (t : qt6) (m : qt2) : am_sow (kw_TI t m) [2, 3, 4, 5, 6] = true := rfl
set_option maxRecDepth 100000 in
set_option maxHeartbeats 4000000 in
theorem ks_TI_I_1_s (t : qt6) (m : qt2) : am_sub (kw_TI t m) [2, 3, 4, 5, 6] = (kw_I m) := rfl
set_option maxRecDepth 100000 in
set_option maxHeartbeats 4000000 in
theorem ks_TI_I_1_m (t : qt6) (m : qt2) (z0 : qt2) : am_mix (kw_TI t m) [2, 3, 4, 5, 6] (kw_I z0) = (kw_TI t z0) := rfl
set_option maxRecDepth 100000 in
set_option maxHeartbeats 4000000 in
theorem ks_TI_T_0_o (t : qt6) (m : qt2) : am_sow (kw_TI t m) [0, 1] = true := rfl
set_option maxRecDepth 100000 in
set_option maxHeartbeats 4000000 in
theorem ks_TI_T_0_s (t : qt6) (m : qt2) : am_sub (kw_TI t m) [0, 1] = (kw_T 1000 t) := rfl
set_option maxRecDepth 100000 in
set_option maxHeartbeats 4000000 in
theorem ks_TI_T_0_m (t : qt6) (m : qt2) (z0 : qt6) : am_mix (kw_TI t m) [0, 1] (kw_T 1000 z0) = (kw_TI z0 m) := rfl
set_option maxRecDepth 100000 in
set_option maxHeartbeats 4000000 in
theorem ks_W_T_1_o (t : qt6) (x : qt5) (m : qt2) : am_sow (kw_W t x m) [1, 2] = true := rfl
set_option maxRecDepth 100000 in
set_option maxHeartbeats 4000000 in
theorem ks_W_T_1_s (t : qt6) (x : qt5) (m : qt2) : am_sub (kw_W t x m) [1, 2] = (kw_T 1000 t) := rfl
set_option maxRecDepth 100000 in
set_option maxHeartbeats 4000000 in
theorem ks_W_T_1_m (t : qt6) (x : qt5) (m : qt2) (z0 : qt6) : am_mix (kw_W t x m) [1, 2] (kw_T 1000 z0) = (kw_W z0 x m) := rfl
set_option maxRecDepth 100000 in
set_option maxHeartbeats 4000000 in
theorem ks_W_S_2_o (t : qt6) (x : qt5) (m : qt2) : am_sow (kw_W t x m) [3, 4, 5, 6, 7, 8, 9, 10] = true := rfl
set_option maxRecDepth 100000 in
set_option maxHeartbeats 4000000 in
theorem ks_W_S_2_s (t : qt6) (x : qt5) (m : qt2) : am_sub (kw_W t x m) [3, 4, 5, 6, 7, 8, 9, 10] = (kw_S x) := rfl
set_option maxRecDepth 100000 in
set_option maxHeartbeats 4000000 in
theorem ks_W_S_2_m (t : qt6) (x : qt5) (m : qt2) (z0 : qt5) : am_mix (kw_W t x m) [3, 4, 5, 6, 7, 8, 9, 10] (kw_S z0) = (kw_W t z0 m) := rfl
set_option maxRecDepth 100000 in
set_option maxHeartbeats 4000000 in
theorem ks_W_I_3_o (t : qt6) (x : qt5) (m : qt2) : am_sow (kw_W t x m) [11, 12, 13, 14, 15] = true := rfl
set_option maxRecDepth 100000 in
set_option maxHeartbeats 4000000 in
theorem ks_W_I_3_s (t : qt6) (x : qt5) (m : qt2) : am_sub (kw_W t x m) [11, 12, 13, 14, 15] = (kw_I m) := rfl
set_option maxRecDepth 100000 in
set_option maxHeartbeats 4000000 in
theorem ks_W_I_3_m (t : qt6) (x : qt5) (m : qt2) (z0 : qt2) : am_mix (kw_W t x m) [11, 12, 13, 14, 15] (kw_I z0) = (kw_W t x z0) := rfl
set_option maxRecDepth 100000 in
set_option maxHeartbeats 4000000 in
theorem ks_W_TI_1_3_o (t : qt6) (x : qt5) (m : qt2) : am_sow (kw_W t x m) [1, 2, 11, 12, 13, 14, 15] = true := rfl
set_option maxRecDepth 100000 in
set_option maxHeartbeats 4000000 in
theorem ks_W_TI_1_3_s (t : qt6) (x : qt5) (m : qt2) : am_sub (kw_W t x m) [1, 2, 11, 12, 13, 14, 15] = (kw_TI t m) := rfl
set_option maxRecDepth 100000 in
set_option maxHeartbeats 4000000 in
theorem ks_W_TI_1_3_m (t : qt6) (x : qt5) (m : qt2) (z0 : qt6) (z1 : qt2) : am_mix (kw_W t x m) [1, 2, 11, 12, 13, 14, 15] (kw_TI z0 z1) = (kw_W z0 x z1) := rfl
