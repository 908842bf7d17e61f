noncomputable def ki5_cutBrace : List (Nat × Option (List Nat) × Nat × (List am_V → List am_C → Prop) × am_M) := [(4, some [8, 9], 2, pr6_at, fm6_at), (12, some [8, 9], 2, pr6_at, fm6_at), (29, some [0, 1, 2, 3, 4, 5, 6, 7], 5, pr5_take, fm5_take), (41, some [], 1, pr4_isVariable, fm4_isVariable), (52, some [0, 1, 2, 3, 4, 5, 6, 7], 5, pr5_take, fm5_take), (74, some [0, 1, 2, 3, 4, 5, 6, 7], 5, pr5_take, fm5_take), (97, some [0, 1, 2, 3, 4, 5, 6, 7], 5, pr5_take, fm5_take), (103, some [], 1, pr4_isVariable, fm4_isVariable), (113, some [8, 9], 2, pr6_at, fm6_at), (133, some [0, 1, 2, 3, 4, 5, 6, 7], 5, pr5_take, fm5_take), (149, some [0, 1, 2, 3, 4, 5, 6, 7], 5, pr5_take, fm5_take), (159, some [0, 1, 2, 3, 4, 5, 6, 7], 5, pr5_take, fm5_take)]
noncomputable def kb5_cutBrace : am_B := (kd5_cutBrace, am_as kf5, hn_ty, fun _ => none, fun _ => none, am_as ki5_cutBrace, fun _ => none, 5, 5, (some .int))
noncomputable def fn5_cutBrace_c153 (x : qt5) (t : qt6) (v2 : Int32) (v3 : Int32) : Int32 × qt5 := ((fn5_take x (7 : Int32) v3 v2 (1 : Int32)).1, (fn5_take x (7 : Int32) v3 v2 (1 : Int32)).2)
def wp5_cutBrace_c153 (x : qt5) (t : qt6) (v2 : Int32) (v3 : Int32) : Prop := (wp5_take x (7 : Int32) v3 v2 (1 : Int32))
set_option maxRecDepth 100000 in
set_option maxHeartbeats 4000000 in
theorem rc5_cutBrace_153 (x : qt5) (t : qt6) (v2 : Int32) (v3 : Int32) (j4 : Option am_V) (g4 : am_loO 10 j4 = true) (hp : wp5_cutBrace_c153 x t v2 v3) : am_lf (am_mk kb5_cutBrace 0 0 10) [56, 78, 101, 153] (153, [some (.inr (.inl 0)), some (.inr (.inl 8)), some (.inl v2), some (.inl v3), j4], [], (kw_ST x t), 0, 0) = some (some (.inl ((fn5_cutBrace_c153 x t v2 v3).1)), (kw_ST ((fn5_cutBrace_c153 x t v2 v3).2) t)) := by
  unfold wp5_cutBrace_c153 at hp
  refine am_lf_eq ?_
  generalize am_lf (am_mk kb5_cutBrace 0 0 10) [56, 78, 101, 153] = kt
  refine am_cy (pre := pr5_take) (f := fm5_take) (a' := [.inr (.inl 0), .inl (7 : Int32), .inl v3, .inl v2, .inl (1 : Int32)]) (wc := (kw_S x)) (w' := (kw_ST ((fn5_take x (7 : Int32) v3 v2 (1 : Int32)).2) t)) (r := (some (.inl ((fn5_take x (7 : Int32) v3 v2 (1 : Int32)).1)), (kw_S ((fn5_take x (7 : Int32) v3 v2 (1 : Int32)).2)), 0, 0)) ?_ ?_ ?_ ?_ ?_ ?_ ?_ ?_ ?_ ?_
  · exact ks_ST_S_0_o x t
  · rfl
  · rfl
  · exact ks_ST_S_0_s x t
  · exact ⟨x, (7 : Int32), v3, v2, (1 : Int32), rfl, rfl, hp⟩
  · exact fe5_take x (7 : Int32) v3 v2 (1 : Int32)
  · exact kwl_S ((fn5_take x (7 : Int32) v3 v2 (1 : Int32)).2)
  · rfl
  · exact ks_ST_S_0_m x t ((fn5_take x (7 : Int32) v3 v2 (1 : Int32)).2)
  have e : fn5_cutBrace_c153 x t v2 v3 = ((fn5_take x (7 : Int32) v3 v2 (1 : Int32)).1, (fn5_take x (7 : Int32) v3 v2 (1 : Int32)).2) := by
    rw [fn5_cutBrace_c153]
  rw [e] <;> rfl
noncomputable def fn5_cutBrace_c101 (x : qt5) (t : qt6) (v2 : Int32) (v3 : Int32) (v4 : Int32) : Int32 × qt5 := (if (fn4_isVariable v4) = 0 then (fn5_cutBrace_c153 x t v2 v3) else (if (fn6_at 240 t (v2 + (3 : Int32))) = (125 : Int32) then (if v3 = (63 : Int32) then ((fn5_take x (3 : Int32) v4 v2 (4 : Int32)).1, (fn5_take x (3 : Int32) v4 v2 (4 : Int32)).2) else (if v3 = (42 : Int32) then ((fn5_take x (4 : Int32) v4 v2 (4 : Int32)).1, (fn5_take x (4 : Int32) v4 v2 (4 : Int32)).2) else (fn5_cutBrace_c153 x t v2 v3))) else (fn5_cutBrace_c153 x t v2 v3)))
def wp5_cutBrace_c101 (x : qt5) (t : qt6) (v2 : Int32) (v3 : Int32) (v4 : Int32) : Prop := ((wp4_isVariable v4) ∧ (((fn4_isVariable v4) = 0 → (wp5_cutBrace_c153 x t v2 v3)) ∧ (¬ (fn4_isVariable v4) = 0 → ((wp6_at 240 t (v2 + (3 : Int32))) ∧ (((fn6_at 240 t (v2 + (3 : Int32))) = (125 : Int32) → ((v3 = (63 : Int32) → (wp5_take x (3 : Int32) v4 v2 (4 : Int32))) ∧ (¬ v3 = (63 : Int32) → ((v3 = (42 : Int32) → (wp5_take x (4 : Int32) v4 v2 (4 : Int32))) ∧ (¬ v3 = (42 : Int32) → (wp5_cutBrace_c153 x t v2 v3)))))) ∧ (¬ (fn6_at 240 t (v2 + (3 : Int32))) = (125 : Int32) → (wp5_cutBrace_c153 x t v2 v3)))))))
set_option maxRecDepth 100000 in
set_option maxHeartbeats 4000000 in
theorem rc5_cutBrace_101 (x : qt5) (t : qt6) (v2 : Int32) (v3 : Int32) (v4 : Int32) (hp : wp5_cutBrace_c101 x t v2 v3 v4) : am_lf (am_mk kb5_cutBrace 0 0 10) [56, 78, 101, 153] (101, [some (.inr (.inl 0)), some (.inr (.inl 8)), some (.inl v2), some (.inl v3), some (.inl v4)], [], (kw_ST x t), 0, 0) = some (some (.inl ((fn5_cutBrace_c101 x t v2 v3 v4).1)), (kw_ST ((fn5_cutBrace_c101 x t v2 v3 v4).2) t)) := by
  unfold wp5_cutBrace_c101 at hp
  have i153 := @rc5_cutBrace_153
  refine am_lf_eq ?_
  generalize am_lf (am_mk kb5_cutBrace 0 0 10) [56, 78, 101, 153] = kt at i153 ⊢
  refine am_cy (pre := pr4_isVariable) (f := fm4_isVariable) (a' := [.inl v4]) (wc := []) (w' := (kw_ST x t)) (r := (some (.inl (fn4_isVariable v4)), [], 0, 0)) ?_ ?_ ?_ ?_ ?_ ?_ ?_ ?_ ?_ ?_
  · exact am_sow0 _
  · rfl
  · rfl
  · exact am_sub0 _
  · exact ⟨v4, rfl, rfl, hp.1⟩
  · exact fe4_isVariable v4
  · exact rfl
  · rfl
  · exact am_mix0 _
  refine am_if (c := (fn4_isVariable v4) = 0) (fun h1 => ?_) (fun h1 => ?_)
  · have q1 := hp.2.1 h1
    have e : fn5_cutBrace_c101 x t v2 v3 v4 = fn5_cutBrace_c153 x t v2 v3 := by
      rw [fn5_cutBrace_c101]
      rw [if_pos h1]
    rw [e]
    exact i153 x t v2 v3 _ rfl q1
  · have q1 := hp.2.2 h1
    refine am_cy (pre := pr6_at) (f := fm6_at) (a' := [.inr (.inl 0), .inl (v2 + (3 : Int32))]) (wc := (kw_T 240 t)) (w' := (kw_ST x t)) (r := (some (.inl (fn6_at 240 t (v2 + (3 : Int32)))), (kw_T 240 t), 0, 0)) ?_ ?_ ?_ ?_ ?_ ?_ ?_ ?_ ?_ ?_
    · exact ks_ST_T_1_o x t
    · rfl
    · rfl
    · exact ks_ST_T_1_s x t
    · exact ⟨240, t, (v2 + (3 : Int32)), rfl, rfl, q1.1⟩
    · exact fe6_at 240 t (v2 + (3 : Int32))
    · exact kwl_T 240 t
    · rfl
    · exact ks_ST_T_1_m x t t
    refine am_if (c := (fn6_at 240 t (v2 + (3 : Int32))) = (125 : Int32)) (fun h2 => ?_) (fun h2 => ?_)
    · have q2 := q1.2.1 h2
      refine am_if (c := v3 = (63 : Int32)) (fun h3 => ?_) (fun h3 => ?_)
      · have q3 := q2.1 h3
        refine am_cy (pre := pr5_take) (f := fm5_take) (a' := [.inr (.inl 0), .inl (3 : Int32), .inl v4, .inl v2, .inl (4 : Int32)]) (wc := (kw_S x)) (w' := (kw_ST ((fn5_take x (3 : Int32) v4 v2 (4 : Int32)).2) t)) (r := (some (.inl ((fn5_take x (3 : Int32) v4 v2 (4 : Int32)).1)), (kw_S ((fn5_take x (3 : Int32) v4 v2 (4 : Int32)).2)), 0, 0)) ?_ ?_ ?_ ?_ ?_ ?_ ?_ ?_ ?_ ?_
        · exact ks_ST_S_0_o x t
        · rfl
        · rfl
        · exact ks_ST_S_0_s x t
        · exact ⟨x, (3 : Int32), v4, v2, (4 : Int32), rfl, rfl, q3⟩
        · exact fe5_take x (3 : Int32) v4 v2 (4 : Int32)
        · exact kwl_S ((fn5_take x (3 : Int32) v4 v2 (4 : Int32)).2)
        · rfl
        · exact ks_ST_S_0_m x t ((fn5_take x (3 : Int32) v4 v2 (4 : Int32)).2)
        have e : fn5_cutBrace_c101 x t v2 v3 v4 = ((fn5_take x (3 : Int32) v4 v2 (4 : Int32)).1, (fn5_take x (3 : Int32) v4 v2 (4 : Int32)).2) := by
          rw [fn5_cutBrace_c101]
          rw [if_neg h1, if_pos h2, if_pos h3]
        rw [e] <;> rfl
      · have q3 := q2.2 h3
        refine am_if (c := v3 = (42 : Int32)) (fun h4 => ?_) (fun h4 => ?_)
        · have q4 := q3.1 h4
          refine am_cy (pre := pr5_take) (f := fm5_take) (a' := [.inr (.inl 0), .inl (4 : Int32), .inl v4, .inl v2, .inl (4 : Int32)]) (wc := (kw_S x)) (w' := (kw_ST ((fn5_take x (4 : Int32) v4 v2 (4 : Int32)).2) t)) (r := (some (.inl ((fn5_take x (4 : Int32) v4 v2 (4 : Int32)).1)), (kw_S ((fn5_take x (4 : Int32) v4 v2 (4 : Int32)).2)), 0, 0)) ?_ ?_ ?_ ?_ ?_ ?_ ?_ ?_ ?_ ?_
          · exact ks_ST_S_0_o x t
          · rfl
          · rfl
          · exact ks_ST_S_0_s x t
          · exact ⟨x, (4 : Int32), v4, v2, (4 : Int32), rfl, rfl, q4⟩
          · exact fe5_take x (4 : Int32) v4 v2 (4 : Int32)
          · exact kwl_S ((fn5_take x (4 : Int32) v4 v2 (4 : Int32)).2)
          · rfl
          · exact ks_ST_S_0_m x t ((fn5_take x (4 : Int32) v4 v2 (4 : Int32)).2)
          have e : fn5_cutBrace_c101 x t v2 v3 v4 = ((fn5_take x (4 : Int32) v4 v2 (4 : Int32)).1, (fn5_take x (4 : Int32) v4 v2 (4 : Int32)).2) := by
            rw [fn5_cutBrace_c101]
            rw [if_neg h1, if_pos h2, if_neg h3, if_pos h4]
          rw [e] <;> rfl
        · have q4 := q3.2 h4
          have e : fn5_cutBrace_c101 x t v2 v3 v4 = fn5_cutBrace_c153 x t v2 v3 := by
            rw [fn5_cutBrace_c101]
            rw [if_neg h1, if_pos h2, if_neg h3, if_neg h4]
          rw [e]
          exact i153 x t v2 v3 _ rfl q4
    · have q2 := q1.2.2 h2
      have e : fn5_cutBrace_c101 x t v2 v3 v4 = fn5_cutBrace_c153 x t v2 v3 := by
        rw [fn5_cutBrace_c101]
        rw [if_neg h1, if_neg h2]
      rw [e]
      exact i153 x t v2 v3 _ rfl q2
noncomputable def fn5_cutBrace_c78 (x : qt5) (t : qt6) (v2 : Int32) (v3 : Int32) (v4 : Int32) : Int32 × qt5 := (if v4 = (125 : Int32) then (if v3 = (47 : Int32) then ((fn5_take x (6 : Int32) v3 v2 (3 : Int32)).1, (fn5_take x (6 : Int32) v3 v2 (3 : Int32)).2) else (fn5_cutBrace_c101 x t v2 v3 v4)) else (fn5_cutBrace_c101 x t v2 v3 v4))
def wp5_cutBrace_c78 (x : qt5) (t : qt6) (v2 : Int32) (v3 : Int32) (v4 : Int32) : Prop := ((v4 = (125 : Int32) → ((v3 = (47 : Int32) → (wp5_take x (6 : Int32) v3 v2 (3 : Int32))) ∧ (¬ v3 = (47 : Int32) → (wp5_cutBrace_c101 x t v2 v3 v4)))) ∧ (¬ v4 = (125 : Int32) → (wp5_cutBrace_c101 x t v2 v3 v4)))
set_option maxRecDepth 100000 in
set_option maxHeartbeats 4000000 in
theorem rc5_cutBrace_78 (x : qt5) (t : qt6) (v2 : Int32) (v3 : Int32) (v4 : Int32) (hp : wp5_cutBrace_c78 x t v2 v3 v4) : am_lf (am_mk kb5_cutBrace 0 0 10) [56, 78, 101, 153] (78, [some (.inr (.inl 0)), some (.inr (.inl 8)), some (.inl v2), some (.inl v3), some (.inl v4)], [], (kw_ST x t), 0, 0) = some (some (.inl ((fn5_cutBrace_c78 x t v2 v3 v4).1)), (kw_ST ((fn5_cutBrace_c78 x t v2 v3 v4).2) t)) := by
  unfold wp5_cutBrace_c78 at hp
  have i101 := @rc5_cutBrace_101
  refine am_lf_eq ?_
  generalize am_lf (am_mk kb5_cutBrace 0 0 10) [56, 78, 101, 153] = kt at i101 ⊢
  refine am_if (c := v4 = (125 : Int32)) (fun h1 => ?_) (fun h1 => ?_)
  · have q1 := hp.1 h1
    refine am_if (c := v3 = (47 : Int32)) (fun h2 => ?_) (fun h2 => ?_)
    · have q2 := q1.1 h2
      refine am_cy (pre := pr5_take) (f := fm5_take) (a' := [.inr (.inl 0), .inl (6 : Int32), .inl v3, .inl v2, .inl (3 : Int32)]) (wc := (kw_S x)) (w' := (kw_ST ((fn5_take x (6 : Int32) v3 v2 (3 : Int32)).2) t)) (r := (some (.inl ((fn5_take x (6 : Int32) v3 v2 (3 : Int32)).1)), (kw_S ((fn5_take x (6 : Int32) v3 v2 (3 : Int32)).2)), 0, 0)) ?_ ?_ ?_ ?_ ?_ ?_ ?_ ?_ ?_ ?_
      · exact ks_ST_S_0_o x t
      · rfl
      · rfl
      · exact ks_ST_S_0_s x t
      · exact ⟨x, (6 : Int32), v3, v2, (3 : Int32), rfl, rfl, q2⟩
      · exact fe5_take x (6 : Int32) v3 v2 (3 : Int32)
      · exact kwl_S ((fn5_take x (6 : Int32) v3 v2 (3 : Int32)).2)
      · rfl
      · exact ks_ST_S_0_m x t ((fn5_take x (6 : Int32) v3 v2 (3 : Int32)).2)
      have e : fn5_cutBrace_c78 x t v2 v3 v4 = ((fn5_take x (6 : Int32) v3 v2 (3 : Int32)).1, (fn5_take x (6 : Int32) v3 v2 (3 : Int32)).2) := by
        rw [fn5_cutBrace_c78]
        rw [if_pos h1, if_pos h2]
      rw [e] <;> rfl
    · have q2 := q1.2 h2
      have e : fn5_cutBrace_c78 x t v2 v3 v4 = fn5_cutBrace_c101 x t v2 v3 v4 := by
        rw [fn5_cutBrace_c78]
        rw [if_pos h1, if_neg h2]
      rw [e]
      exact i101 x t v2 v3 v4  q2
  · have q1 := hp.2 h1
    have e : fn5_cutBrace_c78 x t v2 v3 v4 = fn5_cutBrace_c101 x t v2 v3 v4 := by
      rw [fn5_cutBrace_c78]
      rw [if_neg h1]
    rw [e]
    exact i101 x t v2 v3 v4  q1
noncomputable def fn5_cutBrace_c56 (x : qt5) (t : qt6) (v2 : Int32) (v3 : Int32) (v4 : Int32) : Int32 × qt5 := (if v4 = (125 : Int32) then (if v3 = (58 : Int32) then ((fn5_take x (5 : Int32) v3 v2 (3 : Int32)).1, (fn5_take x (5 : Int32) v3 v2 (3 : Int32)).2) else (fn5_cutBrace_c78 x t v2 v3 v4)) else (fn5_cutBrace_c78 x t v2 v3 v4))
def wp5_cutBrace_c56 (x : qt5) (t : qt6) (v2 : Int32) (v3 : Int32) (v4 : Int32) : Prop := ((v4 = (125 : Int32) → ((v3 = (58 : Int32) → (wp5_take x (5 : Int32) v3 v2 (3 : Int32))) ∧ (¬ v3 = (58 : Int32) → (wp5_cutBrace_c78 x t v2 v3 v4)))) ∧ (¬ v4 = (125 : Int32) → (wp5_cutBrace_c78 x t v2 v3 v4)))
set_option maxRecDepth 100000 in
set_option maxHeartbeats 4000000 in
theorem rc5_cutBrace_56 (x : qt5) (t : qt6) (v2 : Int32) (v3 : Int32) (v4 : Int32) (hp : wp5_cutBrace_c56 x t v2 v3 v4) : am_lf (am_mk kb5_cutBrace 0 0 10) [56, 78, 101, 153] (56, [some (.inr (.inl 0)), some (.inr (.inl 8)), some (.inl v2), some (.inl v3), some (.inl v4)], [], (kw_ST x t), 0, 0) = some (some (.inl ((fn5_cutBrace_c56 x t v2 v3 v4).1)), (kw_ST ((fn5_cutBrace_c56 x t v2 v3 v4).2) t)) := by
  unfold wp5_cutBrace_c56 at hp
  have i78 := @rc5_cutBrace_78
  refine am_lf_eq ?_
  generalize am_lf (am_mk kb5_cutBrace 0 0 10) [56, 78, 101, 153] = kt at i78 ⊢
  refine am_if (c := v4 = (125 : Int32)) (fun h1 => ?_) (fun h1 => ?_)
  · have q1 := hp.1 h1
    refine am_if (c := v3 = (58 : Int32)) (fun h2 => ?_) (fun h2 => ?_)
    · have q2 := q1.1 h2
      refine am_cy (pre := pr5_take) (f := fm5_take) (a' := [.inr (.inl 0), .inl (5 : Int32), .inl v3, .inl v2, .inl (3 : Int32)]) (wc := (kw_S x)) (w' := (kw_ST ((fn5_take x (5 : Int32) v3 v2 (3 : Int32)).2) t)) (r := (some (.inl ((fn5_take x (5 : Int32) v3 v2 (3 : Int32)).1)), (kw_S ((fn5_take x (5 : Int32) v3 v2 (3 : Int32)).2)), 0, 0)) ?_ ?_ ?_ ?_ ?_ ?_ ?_ ?_ ?_ ?_
      · exact ks_ST_S_0_o x t
      · rfl
      · rfl
      · exact ks_ST_S_0_s x t
      · exact ⟨x, (5 : Int32), v3, v2, (3 : Int32), rfl, rfl, q2⟩
      · exact fe5_take x (5 : Int32) v3 v2 (3 : Int32)
      · exact kwl_S ((fn5_take x (5 : Int32) v3 v2 (3 : Int32)).2)
      · rfl
      · exact ks_ST_S_0_m x t ((fn5_take x (5 : Int32) v3 v2 (3 : Int32)).2)
      have e : fn5_cutBrace_c56 x t v2 v3 v4 = ((fn5_take x (5 : Int32) v3 v2 (3 : Int32)).1, (fn5_take x (5 : Int32) v3 v2 (3 : Int32)).2) := by
        rw [fn5_cutBrace_c56]
        rw [if_pos h1, if_pos h2]
      rw [e] <;> rfl
    · have q2 := q1.2 h2
      have e : fn5_cutBrace_c56 x t v2 v3 v4 = fn5_cutBrace_c78 x t v2 v3 v4 := by
        rw [fn5_cutBrace_c56]
        rw [if_pos h1, if_neg h2]
      rw [e]
      exact i78 x t v2 v3 v4  q2
  · have q1 := hp.2 h1
    have e : fn5_cutBrace_c56 x t v2 v3 v4 = fn5_cutBrace_c78 x t v2 v3 v4 := by
      rw [fn5_cutBrace_c56]
      rw [if_neg h1]
    rw [e]
    exact i78 x t v2 v3 v4  q1
noncomputable def fn5_cutBrace (x : qt5) (t : qt6) (p1 : Int32) : Int32 × qt5 := Classical.choose (⟨_, rfl⟩ : ∃ z : Int32 × qt5, z = (if (fn6_at 240 t (p1 + (1 : Int32))) = (123 : Int32) then ((fn5_take x (1 : Int32) (123 : Int32) p1 (2 : Int32)).1, (fn5_take x (1 : Int32) (123 : Int32) p1 (2 : Int32)).2) else (if (fn6_at 240 t (p1 + (2 : Int32))) = (125 : Int32) then (if (fn4_isVariable (fn6_at 240 t (p1 + (1 : Int32)))) = 0 then (fn5_cutBrace_c56 x t p1 (fn6_at 240 t (p1 + (1 : Int32))) (fn6_at 240 t (p1 + (2 : Int32)))) else ((fn5_take x (2 : Int32) (fn6_at 240 t (p1 + (1 : Int32))) p1 (3 : Int32)).1, (fn5_take x (2 : Int32) (fn6_at 240 t (p1 + (1 : Int32))) p1 (3 : Int32)).2)) else (fn5_cutBrace_c56 x t p1 (fn6_at 240 t (p1 + (1 : Int32))) (fn6_at 240 t (p1 + (2 : Int32)))))))
theorem fq5_cutBrace (x : qt5) (t : qt6) (p1 : Int32) : fn5_cutBrace x t p1 = (if (fn6_at 240 t (p1 + (1 : Int32))) = (123 : Int32) then ((fn5_take x (1 : Int32) (123 : Int32) p1 (2 : Int32)).1, (fn5_take x (1 : Int32) (123 : Int32) p1 (2 : Int32)).2) else (if (fn6_at 240 t (p1 + (2 : Int32))) = (125 : Int32) then (if (fn4_isVariable (fn6_at 240 t (p1 + (1 : Int32)))) = 0 then (fn5_cutBrace_c56 x t p1 (fn6_at 240 t (p1 + (1 : Int32))) (fn6_at 240 t (p1 + (2 : Int32)))) else ((fn5_take x (2 : Int32) (fn6_at 240 t (p1 + (1 : Int32))) p1 (3 : Int32)).1, (fn5_take x (2 : Int32) (fn6_at 240 t (p1 + (1 : Int32))) p1 (3 : Int32)).2)) else (fn5_cutBrace_c56 x t p1 (fn6_at 240 t (p1 + (1 : Int32))) (fn6_at 240 t (p1 + (2 : Int32)))))) := Classical.choose_spec (⟨_, rfl⟩ : ∃ z : Int32 × qt5, z = (if (fn6_at 240 t (p1 + (1 : Int32))) = (123 : Int32) then ((fn5_take x (1 : Int32) (123 : Int32) p1 (2 : Int32)).1, (fn5_take x (1 : Int32) (123 : Int32) p1 (2 : Int32)).2) else (if (fn6_at 240 t (p1 + (2 : Int32))) = (125 : Int32) then (if (fn4_isVariable (fn6_at 240 t (p1 + (1 : Int32)))) = 0 then (fn5_cutBrace_c56 x t p1 (fn6_at 240 t (p1 + (1 : Int32))) (fn6_at 240 t (p1 + (2 : Int32)))) else ((fn5_take x (2 : Int32) (fn6_at 240 t (p1 + (1 : Int32))) p1 (3 : Int32)).1, (fn5_take x (2 : Int32) (fn6_at 240 t (p1 + (1 : Int32))) p1 (3 : Int32)).2)) else (fn5_cutBrace_c56 x t p1 (fn6_at 240 t (p1 + (1 : Int32))) (fn6_at 240 t (p1 + (2 : Int32)))))))
def wp5_cutBrace (x : qt5) (t : qt6) (p1 : Int32) : Prop := ((wp6_at 240 t (p1 + (1 : Int32))) ∧ ((wp6_at 240 t (p1 + (2 : Int32))) ∧ (((fn6_at 240 t (p1 + (1 : Int32))) = (123 : Int32) → (wp5_take x (1 : Int32) (123 : Int32) p1 (2 : Int32))) ∧ (¬ (fn6_at 240 t (p1 + (1 : Int32))) = (123 : Int32) → (((fn6_at 240 t (p1 + (2 : Int32))) = (125 : Int32) → ((wp4_isVariable (fn6_at 240 t (p1 + (1 : Int32)))) ∧ (((fn4_isVariable (fn6_at 240 t (p1 + (1 : Int32)))) = 0 → (wp5_cutBrace_c56 x t p1 (fn6_at 240 t (p1 + (1 : Int32))) (fn6_at 240 t (p1 + (2 : Int32))))) ∧ (¬ (fn4_isVariable (fn6_at 240 t (p1 + (1 : Int32)))) = 0 → (wp5_take x (2 : Int32) (fn6_at 240 t (p1 + (1 : Int32))) p1 (3 : Int32)))))) ∧ (¬ (fn6_at 240 t (p1 + (2 : Int32))) = (125 : Int32) → (wp5_cutBrace_c56 x t p1 (fn6_at 240 t (p1 + (1 : Int32))) (fn6_at 240 t (p1 + (2 : Int32))))))))))
set_option maxRecDepth 100000 in
set_option maxHeartbeats 4000000 in
theorem re5_cutBrace (x : qt5) (t : qt6) (p1 : Int32) (hp : wp5_cutBrace x t p1) : am_lf (am_mk kb5_cutBrace 0 0 10) [56, 78, 101, 153] (0, am_L0 [.inr (.inl 0), .inr (.inl 8), .inl p1] 5, [], (kw_ST x t), 0, 0) = some (some (.inl ((fn5_cutBrace x t p1).1)), (kw_ST ((fn5_cutBrace x t p1).2) t)) := by
  unfold wp5_cutBrace at hp
  have i56 := @rc5_cutBrace_56
  refine am_lf_eq ?_
  generalize am_lf (am_mk kb5_cutBrace 0 0 10) [56, 78, 101, 153] = kt at i56 ⊢
  refine am_cy (pre := pr6_at) (f := fm6_at) (a' := [.inr (.inl 0), .inl (p1 + (1 : Int32))]) (wc := (kw_T 240 t)) (w' := (kw_ST x t)) (r := (some (.inl (fn6_at 240 t (p1 + (1 : Int32)))), (kw_T 240 t), 0, 0)) ?_ ?_ ?_ ?_ ?_ ?_ ?_ ?_ ?_ ?_
  · exact ks_ST_T_1_o x t
  · rfl
  · rfl
  · exact ks_ST_T_1_s x t
  · exact ⟨240, t, (p1 + (1 : Int32)), rfl, rfl, hp.1⟩
  · exact fe6_at 240 t (p1 + (1 : Int32))
  · exact kwl_T 240 t
  · rfl
  · exact ks_ST_T_1_m x t t
  refine am_cy (pre := pr6_at) (f := fm6_at) (a' := [.inr (.inl 0), .inl (p1 + (2 : Int32))]) (wc := (kw_T 240 t)) (w' := (kw_ST x t)) (r := (some (.inl (fn6_at 240 t (p1 + (2 : Int32)))), (kw_T 240 t), 0, 0)) ?_ ?_ ?_ ?_ ?_ ?_ ?_ ?_ ?_ ?_
  · exact ks_ST_T_1_o x t
  · rfl
  · rfl
  · exact ks_ST_T_1_s x t
  · exact ⟨240, t, (p1 + (2 : Int32)), rfl, rfl, hp.2.1⟩
  · exact fe6_at 240 t (p1 + (2 : Int32))
  · exact kwl_T 240 t
  · rfl
  · exact ks_ST_T_1_m x t t
  refine am_if (c := (fn6_at 240 t (p1 + (1 : Int32))) = (123 : Int32)) (fun h1 => ?_) (fun h1 => ?_)
  · have q1 := hp.2.2.1 h1
    refine am_cy (pre := pr5_take) (f := fm5_take) (a' := [.inr (.inl 0), .inl (1 : Int32), .inl (123 : Int32), .inl p1, .inl (2 : Int32)]) (wc := (kw_S x)) (w' := (kw_ST ((fn5_take x (1 : Int32) (123 : Int32) p1 (2 : Int32)).2) t)) (r := (some (.inl ((fn5_take x (1 : Int32) (123 : Int32) p1 (2 : Int32)).1)), (kw_S ((fn5_take x (1 : Int32) (123 : Int32) p1 (2 : Int32)).2)), 0, 0)) ?_ ?_ ?_ ?_ ?_ ?_ ?_ ?_ ?_ ?_
    · exact ks_ST_S_0_o x t
    · rfl
    · rfl
    · exact ks_ST_S_0_s x t
    · exact ⟨x, (1 : Int32), (123 : Int32), p1, (2 : Int32), rfl, rfl, q1⟩
    · exact fe5_take x (1 : Int32) (123 : Int32) p1 (2 : Int32)
    · exact kwl_S ((fn5_take x (1 : Int32) (123 : Int32) p1 (2 : Int32)).2)
    · rfl
    · exact ks_ST_S_0_m x t ((fn5_take x (1 : Int32) (123 : Int32) p1 (2 : Int32)).2)
    have e : fn5_cutBrace x t p1 = ((fn5_take x (1 : Int32) (123 : Int32) p1 (2 : Int32)).1, (fn5_take x (1 : Int32) (123 : Int32) p1 (2 : Int32)).2) := by
      rw [fq5_cutBrace]
      rw [if_pos h1]
    rw [e] <;> rfl
  · have q1 := hp.2.2.2 h1
    refine am_if (c := (fn6_at 240 t (p1 + (2 : Int32))) = (125 : Int32)) (fun h2 => ?_) (fun h2 => ?_)
    · have q2 := q1.1 h2
      refine am_cy (pre := pr4_isVariable) (f := fm4_isVariable) (a' := [.inl (fn6_at 240 t (p1 + (1 : Int32)))]) (wc := []) (w' := (kw_ST x t)) (r := (some (.inl (fn4_isVariable (fn6_at 240 t (p1 + (1 : Int32))))), [], 0, 0)) ?_ ?_ ?_ ?_ ?_ ?_ ?_ ?_ ?_ ?_
      · exact am_sow0 _
      · rfl
      · rfl
      · exact am_sub0 _
      · exact ⟨(fn6_at 240 t (p1 + (1 : Int32))), rfl, rfl, q2.1⟩
      · exact fe4_isVariable (fn6_at 240 t (p1 + (1 : Int32)))
      · exact rfl
      · rfl
      · exact am_mix0 _
      refine am_if (c := (fn4_isVariable (fn6_at 240 t (p1 + (1 : Int32)))) = 0) (fun h3 => ?_) (fun h3 => ?_)
      · have q3 := q2.2.1 h3
        have e : fn5_cutBrace x t p1 = fn5_cutBrace_c56 x t p1 (fn6_at 240 t (p1 + (1 : Int32))) (fn6_at 240 t (p1 + (2 : Int32))) := by
          rw [fq5_cutBrace]
          rw [if_neg h1, if_pos h2, if_pos h3]
        rw [e]
        exact i56 x t p1 (fn6_at 240 t (p1 + (1 : Int32))) (fn6_at 240 t (p1 + (2 : Int32)))  q3
      · have q3 := q2.2.2 h3
        refine am_cy (pre := pr5_take) (f := fm5_take) (a' := [.inr (.inl 0), .inl (2 : Int32), .inl (fn6_at 240 t (p1 + (1 : Int32))), .inl p1, .inl (3 : Int32)]) (wc := (kw_S x)) (w' := (kw_ST ((fn5_take x (2 : Int32) (fn6_at 240 t (p1 + (1 : Int32))) p1 (3 : Int32)).2) t)) (r := (some (.inl ((fn5_take x (2 : Int32) (fn6_at 240 t (p1 + (1 : Int32))) p1 (3 : Int32)).1)), (kw_S ((fn5_take x (2 : Int32) (fn6_at 240 t (p1 + (1 : Int32))) p1 (3 : Int32)).2)), 0, 0)) ?_ ?_ ?_ ?_ ?_ ?_ ?_ ?_ ?_ ?_
        · exact ks_ST_S_0_o x t
        · rfl
        · rfl
        · exact ks_ST_S_0_s x t
        · exact ⟨x, (2 : Int32), (fn6_at 240 t (p1 + (1 : Int32))), p1, (3 : Int32), rfl, rfl, q3⟩
        · exact fe5_take x (2 : Int32) (fn6_at 240 t (p1 + (1 : Int32))) p1 (3 : Int32)
        · exact kwl_S ((fn5_take x (2 : Int32) (fn6_at 240 t (p1 + (1 : Int32))) p1 (3 : Int32)).2)
        · rfl
        · exact ks_ST_S_0_m x t ((fn5_take x (2 : Int32) (fn6_at 240 t (p1 + (1 : Int32))) p1 (3 : Int32)).2)
        have e : fn5_cutBrace x t p1 = ((fn5_take x (2 : Int32) (fn6_at 240 t (p1 + (1 : Int32))) p1 (3 : Int32)).1, (fn5_take x (2 : Int32) (fn6_at 240 t (p1 + (1 : Int32))) p1 (3 : Int32)).2) := by
          rw [fq5_cutBrace]
          rw [if_neg h1, if_pos h2, if_neg h3]
        rw [e] <;> rfl
    · have q2 := q1.2 h2
      have e : fn5_cutBrace x t p1 = fn5_cutBrace_c56 x t p1 (fn6_at 240 t (p1 + (1 : Int32))) (fn6_at 240 t (p1 + (2 : Int32))) := by
        rw [fq5_cutBrace]
        rw [if_neg h1, if_neg h2]
      rw [e]
      exact i56 x t p1 (fn6_at 240 t (p1 + (1 : Int32))) (fn6_at 240 t (p1 + (2 : Int32)))  q2
abbrev pr5_cutBrace : List am_V → List am_C → Prop := fun a w => ∃ (x : qt5) (t : qt6) (p1 : Int32), a = [.inr (.inl 0), .inr (.inl 8), .inl p1] ∧ w = (kw_ST x t) ∧ wp5_cutBrace x t p1
noncomputable def fm5_cutBrace : am_M := fun a w => (fun (z : Int32 × qt5) => (some (.inl (z.1)), (kw_ST (z.2) (qs6 w 8)), 0, 0)) (fn5_cutBrace (qs5 w 0) (qs6 w 8) (am_i (am_an a 2)))
theorem fe5_cutBrace (x : qt5) (t : qt6) (p1 : Int32) : fm5_cutBrace [.inr (.inl 0), .inr (.inl 8), .inl p1] (kw_ST x t) = (some (.inl ((fn5_cutBrace x t p1).1)), (kw_ST ((fn5_cutBrace x t p1).2) t), 0, 0) := rfl
set_option maxRecDepth 100000 in
set_option maxHeartbeats 4000000 in
theorem rn5_cutBrace : ∀ (a : List am_V) (w : List am_C), pr5_cutBrace a w → ∃ nq, am_ev (am_mk kb5_cutBrace (fm5_cutBrace a w).2.2.1 (fm5_cutBrace a w).2.2.2 w.length) [56, 78, 101, 153] nq (0, am_L0 a 5, [], w, 0, 0) = some ((fm5_cutBrace a w).1, (fm5_cutBrace a w).2.1) := by
  rintro a w ⟨x, t, p1, rfl, rfl, hp⟩
  rw [fe5_cutBrace x t p1]
  exact am_lf_ev (re5_cutBrace x t p1 hp)
theorem rl5_cutBrace : ∀ (a : List am_V) (w : List am_C), pr5_cutBrace a w → a.length ≤ 5 := by
  rintro a w ⟨x, t, p1, rfl, rfl, hp⟩
  exact Nat.le_of_ble_eq_true rfl
theorem pa5_cutBrace : ∀ a w, pr5_cutBrace a w → ∃ q a' ci fs r, a = .inr (.inl q) :: a' ∧ w[q]? = some (.inr (ci, fs)) ∧ hn_cl[ci]? = some r ∧ r.1 = hn_R5 := by
  rintro a w ⟨x, t, p1, rfl, rfl, hp⟩
  exact ⟨0, _, 5, _, _, rfl, rfl, rfl, rfl⟩
set_option maxRecDepth 100000 in
set_option maxHeartbeats 4000000 in
theorem km5_cutBrace {l : Launch} {E : (Nat → Prop) → State → Prop} {D : va_G} {ou : Nat → Nat} {ca : Nat → ClassId} (hE : hg_E E ou) : hg_Met l E D ou ca hy5_cutBrace prog_7_method_3_code 5 (some .int) 1 pr5_cutBrace fm5_cutBrace := by
  refine am_met (B := kb5_cutBrace) (cuts := [56, 78, 101, 153]) (nt := 5) (by decide +kernel) rfl rfl (hg_tys_ok ca) ?_ (by decide) rl5_cutBrace ?_ rn5_cutBrace
  · exact fun t ht => List.mem_cons_of_mem _ (hg_arr t ht)
  · intro a w hp ad p e R s m args below meth c hR X hEs hnm
    have hR1 : 1 ≤ R.frames ∧ 40 ≤ R.locals := by rw [hR]; exact ⟨Nat.le_refl _, Nat.le_refl _⟩
    have hN := hE.2.1 _ _ hEs
    refine ⟨kd5_cutBrace_ok, fun index ci fi mode hq => kf5_ok X.2.2.2.2.1 hN.1 (index, ci, fi, mode) (am_as_mem hq), fun index ci fs hq => (am_no hq).elim, fun x v hq => (am_no hq).elim, ?_, fun o t n f hq => (am_no hq).elim, rfl, rfl, by rw [hR]; exact Nat.le_refl _, by rw [hR]; exact Nat.le_refl _⟩
    intro pc sel n0 pre0 f0 hq
    have hz : ∀ q ∈ ki5_cutBrace, am_CK p l e R s m args below meth c D hn_cl (va_A (am_w ad ou ca w) s.heap.size) ou ca 5 q.1 q.2.2.1 q.2.2.2.1 q.2.2.2.2 := by
      refine am_allc (am_ck_V (n := 1) X hEs hE.1 (km6_at hE) (hg_good (gw_mem 318 (by decide +kernel))) rfl (List.mem_cons_of_mem _ (gw_mem 69 (by decide +kernel))) (List.mem_cons_of_mem _ (gw_mem 315 (by decide +kernel))) (List.mem_cons_of_mem _ (gw_mem 316 (by decide +kernel))) (List.mem_cons_of_mem _ (gw_mem 317 (by decide +kernel))) pa6_at (by decide +kernel) ⟨Nat.le_trans (by decide) hR1.1, Nat.le_trans (by decide) hR1.2⟩ (kd5_cutBrace_ok (4, .invokevirtual 46, 3) (List.mem_of_getElem? (i := 4) rfl))) (am_allc (am_ck_V (n := 1) X hEs hE.1 (km6_at hE) (hg_good (gw_mem 318 (by decide +kernel))) rfl (List.mem_cons_of_mem _ (gw_mem 69 (by decide +kernel))) (List.mem_cons_of_mem _ (gw_mem 315 (by decide +kernel))) (List.mem_cons_of_mem _ (gw_mem 316 (by decide +kernel))) (List.mem_cons_of_mem _ (gw_mem 317 (by decide +kernel))) pa6_at (by decide +kernel) ⟨Nat.le_trans (by decide) hR1.1, Nat.le_trans (by decide) hR1.2⟩ (kd5_cutBrace_ok (12, .invokevirtual 46, 3) (List.mem_of_getElem? (i := 10) rfl))) (am_allc (am_ck_V (n := 4) X hEs hE.1 (km5_take hE) (hg_good (gw_mem 326 (by decide +kernel))) rfl (List.mem_cons_of_mem _ (gw_mem 73 (by decide +kernel))) (List.mem_cons_of_mem _ (gw_mem 323 (by decide +kernel))) (List.mem_cons_of_mem _ (gw_mem 325 (by decide +kernel))) (List.mem_cons_of_mem _ (gw_mem 1 (by decide +kernel))) pa5_take (by decide +kernel) ⟨Nat.le_trans (by decide) hR1.1, Nat.le_trans (by decide) hR1.2⟩ (kd5_cutBrace_ok (29, .invokevirtual 54, 3) (List.mem_of_getElem? (i := 20) rfl))) (am_allc (am_ck_S (n := 1) X hEs hE.1 (km4_isVariable hE) (hg_good (gw_mem 329 (by decide +kernel))) rfl (List.mem_cons_of_mem _ (gw_mem 77 (by decide +kernel))) (List.mem_cons_of_mem _ (gw_mem 327 (by decide +kernel))) (List.mem_cons_of_mem _ (gw_mem 328 (by decide +kernel))) (by decide +kernel) ⟨Nat.le_trans (by decide) hR1.1, Nat.le_trans (by decide) hR1.2⟩ (kd5_cutBrace_ok (41, .invokestatic 64, 3) (List.mem_of_getElem? (i := 26) rfl))) (am_allc (am_ck_V (n := 4) X hEs hE.1 (km5_take hE) (hg_good (gw_mem 326 (by decide +kernel))) rfl (List.mem_cons_of_mem _ (gw_mem 73 (by decide +kernel))) (List.mem_cons_of_mem _ (gw_mem 323 (by decide +kernel))) (List.mem_cons_of_mem _ (gw_mem 325 (by decide +kernel))) (List.mem_cons_of_mem _ (gw_mem 1 (by decide +kernel))) pa5_take (by decide +kernel) ⟨Nat.le_trans (by decide) hR1.1, Nat.le_trans (by decide) hR1.2⟩ (kd5_cutBrace_ok (52, .invokevirtual 54, 3) (List.mem_of_getElem? (i := 33) rfl))) (am_allc (am_ck_V (n := 4) X hEs hE.1 (km5_take hE) (hg_good (gw_mem 326 (by decide +kernel))) rfl (List.mem_cons_of_mem _ (gw_mem 73 (by decide +kernel))) (List.mem_cons_of_mem _ (gw_mem 323 (by decide +kernel))) (List.mem_cons_of_mem _ (gw_mem 325 (by decide +kernel))) (List.mem_cons_of_mem _ (gw_mem 1 (by decide +kernel))) pa5_take (by decide +kernel) ⟨Nat.le_trans (by decide) hR1.1, Nat.le_trans (by decide) hR1.2⟩ (kd5_cutBrace_ok (74, .invokevirtual 54, 3) (List.mem_of_getElem? (i := 46) rfl))) (am_allc (am_ck_V (n := 4) X hEs hE.1 (km5_take hE) (hg_good (gw_mem 326 (by decide +kernel))) rfl (List.mem_cons_of_mem _ (gw_mem 73 (by decide +kernel))) (List.mem_cons_of_mem _ (gw_mem 323 (by decide +kernel))) (List.mem_cons_of_mem _ (gw_mem 325 (by decide +kernel))) (List.mem_cons_of_mem _ (gw_mem 1 (by decide +kernel))) pa5_take (by decide +kernel) ⟨Nat.le_trans (by decide) hR1.1, Nat.le_trans (by decide) hR1.2⟩ (kd5_cutBrace_ok (97, .invokevirtual 54, 3) (List.mem_of_getElem? (i := 59) rfl))) (am_allc (am_ck_S (n := 1) X hEs hE.1 (km4_isVariable hE) (hg_good (gw_mem 329 (by decide +kernel))) rfl (List.mem_cons_of_mem _ (gw_mem 77 (by decide +kernel))) (List.mem_cons_of_mem _ (gw_mem 327 (by decide +kernel))) (List.mem_cons_of_mem _ (gw_mem 328 (by decide +kernel))) (by decide +kernel) ⟨Nat.le_trans (by decide) hR1.1, Nat.le_trans (by decide) hR1.2⟩ (kd5_cutBrace_ok (103, .invokestatic 64, 3) (List.mem_of_getElem? (i := 62) rfl))) (am_allc (am_ck_V (n := 1) X hEs hE.1 (km6_at hE) (hg_good (gw_mem 318 (by decide +kernel))) rfl (List.mem_cons_of_mem _ (gw_mem 69 (by decide +kernel))) (List.mem_cons_of_mem _ (gw_mem 315 (by decide +kernel))) (List.mem_cons_of_mem _ (gw_mem 316 (by decide +kernel))) (List.mem_cons_of_mem _ (gw_mem 317 (by decide +kernel))) pa6_at (by decide +kernel) ⟨Nat.le_trans (by decide) hR1.1, Nat.le_trans (by decide) hR1.2⟩ (kd5_cutBrace_ok (113, .invokevirtual 46, 3) (List.mem_of_getElem? (i := 68) rfl))) (am_allc (am_ck_V (n := 4) X hEs hE.1 (km5_take hE) (hg_good (gw_mem 326 (by decide +kernel))) rfl (List.mem_cons_of_mem _ (gw_mem 73 (by decide +kernel))) (List.mem_cons_of_mem _ (gw_mem 323 (by decide +kernel))) (List.mem_cons_of_mem _ (gw_mem 325 (by decide +kernel))) (List.mem_cons_of_mem _ (gw_mem 1 (by decide +kernel))) pa5_take (by decide +kernel) ⟨Nat.le_trans (by decide) hR1.1, Nat.le_trans (by decide) hR1.2⟩ (kd5_cutBrace_ok (133, .invokevirtual 54, 3) (List.mem_of_getElem? (i := 79) rfl))) (am_allc (am_ck_V (n := 4) X hEs hE.1 (km5_take hE) (hg_good (gw_mem 326 (by decide +kernel))) rfl (List.mem_cons_of_mem _ (gw_mem 73 (by decide +kernel))) (List.mem_cons_of_mem _ (gw_mem 323 (by decide +kernel))) (List.mem_cons_of_mem _ (gw_mem 325 (by decide +kernel))) (List.mem_cons_of_mem _ (gw_mem 1 (by decide +kernel))) pa5_take (by decide +kernel) ⟨Nat.le_trans (by decide) hR1.1, Nat.le_trans (by decide) hR1.2⟩ (kd5_cutBrace_ok (149, .invokevirtual 54, 3) (List.mem_of_getElem? (i := 89) rfl))) (am_allc (am_ck_V (n := 4) X hEs hE.1 (km5_take hE) (hg_good (gw_mem 326 (by decide +kernel))) rfl (List.mem_cons_of_mem _ (gw_mem 73 (by decide +kernel))) (List.mem_cons_of_mem _ (gw_mem 323 (by decide +kernel))) (List.mem_cons_of_mem _ (gw_mem 325 (by decide +kernel))) (List.mem_cons_of_mem _ (gw_mem 1 (by decide +kernel))) pa5_take (by decide +kernel) ⟨Nat.le_trans (by decide) hR1.1, Nat.le_trans (by decide) hR1.2⟩ (kd5_cutBrace_ok (159, .invokevirtual 54, 3) (List.mem_of_getElem? (i := 96) rfl))) (am_all0))))))))))))
    exact hz _ (am_as_mem hq)
noncomputable def ki5_cut : List (Nat × Option (List Nat) × Nat × (List am_V → List am_C → Prop) × am_M) := [(25, some [8, 9], 2, pr6_at, fm6_at), (36, none, 3, pr5_cutBrace, fm5_cutBrace), (46, some [8, 9], 2, pr6_at, fm6_at), (51, some [0, 1, 2, 3, 4, 5, 6, 7], 5, pr5_take, fm5_take), (58, some [], 2, prJ_max, fmJ_max)]
noncomputable def kb5_cut : am_B := (kd5_cut, am_as kf5, hn_ty, fun _ => none, fun _ => none, am_as ki5_cut, fun _ => none, 5, 4, none)
noncomputable def fn5_cut_c15 : Nat → qt5 → qt6 → Int32 → qt5
  | 0, x, _, _ => x
  | fu + 1, x, t, v2 => (if (qg5_templateLength x) ≤ v2 then x else (if (fn6_at 240 t v2) = (123 : Int32) then (fn5_cut_c15 fu ((fn5_cutBrace x t v2).2) t (v2 + (fnJ_max ((fn5_cutBrace x t v2).1) (1 : Int32)))) else (fn5_cut_c15 fu ((fn5_take x (1 : Int32) (fn6_at 240 t v2) v2 (1 : Int32)).2) t (v2 + (fnJ_max ((fn5_take x (1 : Int32) (fn6_at 240 t v2) v2 (1 : Int32)).1) (1 : Int32))))))
def wp5_cut_c15 : Nat → qt5 → qt6 → Int32 → Prop
  | 0, _, _, _ => False
  | fu + 1, x, t, v2 => (((qg5_templateLength x) ≤ v2 → True) ∧ (¬ (qg5_templateLength x) ≤ v2 → ((wp6_at 240 t v2) ∧ (((fn6_at 240 t v2) = (123 : Int32) → ((wp5_cutBrace x t v2) ∧ ((wpJ_max ((fn5_cutBrace x t v2).1) (1 : Int32)) ∧ (wp5_cut_c15 fu ((fn5_cutBrace x t v2).2) t (v2 + (fnJ_max ((fn5_cutBrace x t v2).1) (1 : Int32))))))) ∧ (¬ (fn6_at 240 t v2) = (123 : Int32) → ((wp6_at 240 t v2) ∧ ((wp5_take x (1 : Int32) (fn6_at 240 t v2) v2 (1 : Int32)) ∧ ((wpJ_max ((fn5_take x (1 : Int32) (fn6_at 240 t v2) v2 (1 : Int32)).1) (1 : Int32)) ∧ (wp5_cut_c15 fu ((fn5_take x (1 : Int32) (fn6_at 240 t v2) v2 (1 : Int32)).2) t (v2 + (fnJ_max ((fn5_take x (1 : Int32) (fn6_at 240 t v2) v2 (1 : Int32)).1) (1 : Int32))))))))))))
set_option maxRecDepth 100000 in
set_option maxHeartbeats 4000000 in
theorem rc5_cut_15 : ∀ (fu : Nat) (x : qt5) (t : qt6) (v2 : Int32) (j3 : Option am_V) (g3 : am_loO 10 j3 = true) , wp5_cut_c15 fu x t v2 → am_lf (am_mk kb5_cut 0 0 10) [5, 13, 15] (15, [some (.inr (.inl 0)), some (.inr (.inl 8)), some (.inl v2), j3], [], (kw_ST x t), 0, 0) = some (none, (kw_ST (fn5_cut_c15 fu x t v2) t)) := by
  intro fu
  induction fu with
  | zero =>
    intro x t v2 j3 g3 hp
    exact hp.elim
  | succ fu ih =>
    intro x t v2 j3 g3 hp
    unfold wp5_cut_c15 at hp
    refine am_lf_eq ?_
    generalize am_lf (am_mk kb5_cut 0 0 10) [5, 13, 15] = kt at ih ⊢
    refine am_if (c := (qg5_templateLength x) ≤ v2) (fun h2 => ?_) (fun h2 => ?_)
    · have e : fn5_cut_c15 (fu + 1) x t v2 = x := by
        rw [fn5_cut_c15]
        rw [if_pos h2]
      rw [e] <;> rfl
    · have q2 := hp.2 h2
      refine am_cy (pre := pr6_at) (f := fm6_at) (a' := [.inr (.inl 0), .inl v2]) (wc := (kw_T 240 t)) (w' := (kw_ST x t)) (r := (some (.inl (fn6_at 240 t v2)), (kw_T 240 t), 0, 0)) ?_ ?_ ?_ ?_ ?_ ?_ ?_ ?_ ?_ ?_
      · exact ks_ST_T_1_o x t
      · rfl
      · rfl
      · exact ks_ST_T_1_s x t
      · exact ⟨240, t, v2, rfl, rfl, q2.1⟩
      · exact fe6_at 240 t v2
      · exact kwl_T 240 t
      · rfl
      · exact ks_ST_T_1_m x t t
      refine am_if (c := (fn6_at 240 t v2) = (123 : Int32)) (fun h3 => ?_) (fun h3 => ?_)
      · have q3 := q2.2.1 h3
        refine am_cx (pre := pr5_cutBrace) (f := fm5_cutBrace) (r := (some (.inl ((fn5_cutBrace x t v2).1)), (kw_ST ((fn5_cutBrace x t v2).2) t), 0, 0)) ?_ ?_ ?_ ?_
        · exact ⟨x, t, v2, rfl, rfl, q3.1⟩
        · exact fe5_cutBrace x t v2
        · exact (am_ac rfl (am_ac rfl (am_ac rfl (am_ac g3 am_a0))))
        refine am_cy (pre := prJ_max) (f := fmJ_max) (a' := [.inl ((fn5_cutBrace x t v2).1), .inl (1 : Int32)]) (wc := []) (w' := (kw_ST ((fn5_cutBrace x t v2).2) t)) (r := (some (.inl (fnJ_max ((fn5_cutBrace x t v2).1) (1 : Int32))), [], 0, 0)) ?_ ?_ ?_ ?_ ?_ ?_ ?_ ?_ ?_ ?_
        · exact am_sow0 _
        · rfl
        · rfl
        · exact am_sub0 _
        · exact ⟨(fn5_cutBrace x t v2).1, (1 : Int32), rfl, rfl, q3.2.1⟩
        · exact feJ_max ((fn5_cutBrace x t v2).1) (1 : Int32)
        · exact rfl
        · rfl
        · exact am_mix0 _
        have e : fn5_cut_c15 (fu + 1) x t v2 = fn5_cut_c15 fu ((fn5_cutBrace x t v2).2) t (v2 + (fnJ_max ((fn5_cutBrace x t v2).1) (1 : Int32))) := by
          rw [fn5_cut_c15]
          rw [if_neg h2, if_pos h3]
        rw [e]
        exact ih ((fn5_cutBrace x t v2).2) t (v2 + (fnJ_max ((fn5_cutBrace x t v2).1) (1 : Int32))) _ rfl q3.2.2
      · have q3 := q2.2.2 h3
        refine am_cy (pre := pr6_at) (f := fm6_at) (a' := [.inr (.inl 0), .inl v2]) (wc := (kw_T 240 t)) (w' := (kw_ST x t)) (r := (some (.inl (fn6_at 240 t v2)), (kw_T 240 t), 0, 0)) ?_ ?_ ?_ ?_ ?_ ?_ ?_ ?_ ?_ ?_
        · exact ks_ST_T_1_o x t
        · rfl
        · rfl
        · exact ks_ST_T_1_s x t
        · exact ⟨240, t, v2, rfl, rfl, q3.1⟩
        · exact fe6_at 240 t v2
        · exact kwl_T 240 t
        · rfl
        · exact ks_ST_T_1_m x t t
        refine am_cy (pre := pr5_take) (f := fm5_take) (a' := [.inr (.inl 0), .inl (1 : Int32), .inl (fn6_at 240 t v2), .inl v2, .inl (1 : Int32)]) (wc := (kw_S x)) (w' := (kw_ST ((fn5_take x (1 : Int32) (fn6_at 240 t v2) v2 (1 : Int32)).2) t)) (r := (some (.inl ((fn5_take x (1 : Int32) (fn6_at 240 t v2) v2 (1 : Int32)).1)), (kw_S ((fn5_take x (1 : Int32) (fn6_at 240 t v2) v2 (1 : Int32)).2)), 0, 0)) ?_ ?_ ?_ ?_ ?_ ?_ ?_ ?_ ?_ ?_
        · exact ks_ST_S_0_o x t
        · rfl
        · rfl
        · exact ks_ST_S_0_s x t
        · exact ⟨x, (1 : Int32), (fn6_at 240 t v2), v2, (1 : Int32), rfl, rfl, q3.2.1⟩
        · exact fe5_take x (1 : Int32) (fn6_at 240 t v2) v2 (1 : Int32)
        · exact kwl_S ((fn5_take x (1 : Int32) (fn6_at 240 t v2) v2 (1 : Int32)).2)
        · rfl
        · exact ks_ST_S_0_m x t ((fn5_take x (1 : Int32) (fn6_at 240 t v2) v2 (1 : Int32)).2)
        refine am_cy (pre := prJ_max) (f := fmJ_max) (a' := [.inl ((fn5_take x (1 : Int32) (fn6_at 240 t v2) v2 (1 : Int32)).1), .inl (1 : Int32)]) (wc := []) (w' := (kw_ST ((fn5_take x (1 : Int32) (fn6_at 240 t v2) v2 (1 : Int32)).2) t)) (r := (some (.inl (fnJ_max ((fn5_take x (1 : Int32) (fn6_at 240 t v2) v2 (1 : Int32)).1) (1 : Int32))), [], 0, 0)) ?_ ?_ ?_ ?_ ?_ ?_ ?_ ?_ ?_ ?_
        · exact am_sow0 _
        · rfl
        · rfl
        · exact am_sub0 _
        · exact ⟨(fn5_take x (1 : Int32) (fn6_at 240 t v2) v2 (1 : Int32)).1, (1 : Int32), rfl, rfl, q3.2.2.1⟩
        · exact feJ_max ((fn5_take x (1 : Int32) (fn6_at 240 t v2) v2 (1 : Int32)).1) (1 : Int32)
        · exact rfl
        · rfl
        · exact am_mix0 _
        have e : fn5_cut_c15 (fu + 1) x t v2 = fn5_cut_c15 fu ((fn5_take x (1 : Int32) (fn6_at 240 t v2) v2 (1 : Int32)).2) t (v2 + (fnJ_max ((fn5_take x (1 : Int32) (fn6_at 240 t v2) v2 (1 : Int32)).1) (1 : Int32))) := by
          rw [fn5_cut_c15]
          rw [if_neg h2, if_neg h3]
        rw [e]
        exact ih ((fn5_take x (1 : Int32) (fn6_at 240 t v2) v2 (1 : Int32)).2) t (v2 + (fnJ_max ((fn5_take x (1 : Int32) (fn6_at 240 t v2) v2 (1 : Int32)).1) (1 : Int32))) _ rfl q3.2.2.2
noncomputable def fn5_cut_c13 (x : qt5) (t : qt6) : qt5 := (fn5_cut_c15 hg_fu x t (0 : Int32))
def wp5_cut_c13 (x : qt5) (t : qt6) : Prop := (wp5_cut_c15 hg_fu x t (0 : Int32))
set_option maxRecDepth 100000 in
set_option maxHeartbeats 4000000 in
theorem rc5_cut_13 (x : qt5) (t : qt6) (j2 : Option am_V) (j3 : Option am_V) (g2 : am_loO 10 j2 = true) (g3 : am_loO 10 j3 = true) (hp : wp5_cut_c13 x t) : am_lf (am_mk kb5_cut 0 0 10) [5, 13, 15] (13, [some (.inr (.inl 0)), some (.inr (.inl 8)), j2, j3], [], (kw_ST x t), 0, 0) = some (none, (kw_ST (fn5_cut_c13 x t) t)) := by
  unfold wp5_cut_c13 at hp
  have i15 := @rc5_cut_15
  refine am_lf_eq ?_
  generalize am_lf (am_mk kb5_cut 0 0 10) [5, 13, 15] = kt at i15 ⊢
  have e : fn5_cut_c13 x t = fn5_cut_c15 hg_fu x t (0 : Int32) := by
    rw [fn5_cut_c13]
  rw [e]
  exact i15 hg_fu x t (0 : Int32) _ g3 hp
noncomputable def fn5_cut_c5 (x : qt5) (t : qt6) : qt5 := (fn5_cut_c13 (qu5_templateLength x (qg6_length t)) t)
def wp5_cut_c5 (x : qt5) (t : qt6) : Prop := (wp5_cut_c13 (qu5_templateLength x (qg6_length t)) t)
set_option maxRecDepth 100000 in
set_option maxHeartbeats 4000000 in
theorem rc5_cut_5 (x : qt5) (t : qt6) (j2 : Option am_V) (j3 : Option am_V) (g2 : am_loO 10 j2 = true) (g3 : am_loO 10 j3 = true) (hp : wp5_cut_c5 x t) : am_lf (am_mk kb5_cut 0 0 10) [5, 13, 15] (5, [some (.inr (.inl 0)), some (.inr (.inl 8)), j2, j3], [], (kw_ST x t), 0, 0) = some (none, (kw_ST (fn5_cut_c5 x t) t)) := by
  unfold wp5_cut_c5 at hp
  have i13 := @rc5_cut_13
  refine am_lf_eq ?_
  generalize am_lf (am_mk kb5_cut 0 0 10) [5, 13, 15] = kt at i13 ⊢
  refine am_sp (w' := (kw_ST (qu5_templateLength x (qg6_length t)) t)) (kp_ST_0_templateLength x t (qg6_length t)) ?_
  have e : fn5_cut_c5 x t = fn5_cut_c13 (qu5_templateLength x (qg6_length t)) t := by
    rw [fn5_cut_c5]
  rw [e]
  exact i13 (qu5_templateLength x (qg6_length t)) t _ _ g2 g3 hp
noncomputable def fn5_cut (x : qt5) (t : qt6) : qt5 := Classical.choose (⟨_, rfl⟩ : ∃ z : qt5, z = (fn5_cut_c5 (qu5_count x (0 : Int32)) t))
theorem fq5_cut (x : qt5) (t : qt6) : fn5_cut x t = (fn5_cut_c5 (qu5_count x (0 : Int32)) t) := Classical.choose_spec (⟨_, rfl⟩ : ∃ z : qt5, z = (fn5_cut_c5 (qu5_count x (0 : Int32)) t))
def wp5_cut (x : qt5) (t : qt6) : Prop := (wp5_cut_c5 (qu5_count x (0 : Int32)) t)
set_option maxRecDepth 100000 in
set_option maxHeartbeats 4000000 in
theorem re5_cut (x : qt5) (t : qt6) (hp : wp5_cut x t) : am_lf (am_mk kb5_cut 0 0 10) [5, 13, 15] (0, am_L0 [.inr (.inl 0), .inr (.inl 8)] 4, [], (kw_ST x t), 0, 0) = some (none, (kw_ST (fn5_cut x t) t)) := by
  unfold wp5_cut at hp
  have i5 := @rc5_cut_5
  refine am_lf_eq ?_
  generalize am_lf (am_mk kb5_cut 0 0 10) [5, 13, 15] = kt at i5 ⊢
  refine am_sp (w' := (kw_ST (qu5_count x (0 : Int32)) t)) (kp_ST_0_count x t (0 : Int32)) ?_
  have e : fn5_cut x t = fn5_cut_c5 (qu5_count x (0 : Int32)) t := by
    rw [fq5_cut]
  rw [e]
  exact i5 (qu5_count x (0 : Int32)) t _ _ rfl rfl hp
abbrev pr5_cut : List am_V → List am_C → Prop := fun a w => ∃ (x : qt5) (t : qt6), a = [.inr (.inl 0), .inr (.inl 8)] ∧ w = (kw_ST x t) ∧ wp5_cut x t
noncomputable def fm5_cut : am_M := fun a w => (fun (z : qt5) => (none, (kw_ST z (qs6 w 8)), 0, 0)) (fn5_cut (qs5 w 0) (qs6 w 8))
theorem fe5_cut (x : qt5) (t : qt6) : fm5_cut [.inr (.inl 0), .inr (.inl 8)] (kw_ST x t) = (none, (kw_ST (fn5_cut x t) t), 0, 0) := rfl
set_option maxRecDepth 100000 in
set_option maxHeartbeats 4000000 in
theorem rn5_cut : ∀ (a : List am_V) (w : List am_C), pr5_cut a w → ∃ nq, am_ev (am_mk kb5_cut (fm5_cut a w).2.2.1 (fm5_cut a w).2.2.2 w.length) [5, 13, 15] nq (0, am_L0 a 4, [], w, 0, 0) = some ((fm5_cut a w).1, (fm5_cut a w).2.1) := by
  rintro a w ⟨x, t, rfl, rfl, hp⟩
  rw [fe5_cut x t]
  exact am_lf_ev (re5_cut x t hp)
theorem rl5_cut : ∀ (a : List am_V) (w : List am_C), pr5_cut a w → a.length ≤ 4 := by
  rintro a w ⟨x, t, rfl, rfl, hp⟩
  exact Nat.le_of_ble_eq_true rfl
theorem pa5_cut : ∀ a w, pr5_cut a w → ∃ q a' ci fs r, a = .inr (.inl q) :: a' ∧ w[q]? = some (.inr (ci, fs)) ∧ hn_cl[ci]? = some r ∧ r.1 = hn_R5 := by
  rintro a w ⟨x, t, rfl, rfl, hp⟩
  exact ⟨0, _, 5, _, _, rfl, rfl, rfl, rfl⟩
set_option maxRecDepth 100000 in
set_option maxHeartbeats 4000000 in
theorem km5_cut {l : Launch} {E : (Nat → Prop) → State → Prop} {D : va_G} {ou : Nat → Nat} {ca : Nat → ClassId} (hE : hg_E E ou) : hg_Met l E D ou ca hy5_cut prog_7_method_2_code 4 none 2 pr5_cut fm5_cut := by
  refine am_met (B := kb5_cut) (cuts := [5, 13, 15]) (nt := 5) (by decide +kernel) rfl rfl (hg_tys_ok ca) ?_ (by decide) rl5_cut ?_ rn5_cut
  · exact fun t ht => List.mem_cons_of_mem _ (hg_arr t ht)
  · intro a w hp ad p e R s m args below meth c hR X hEs hnm
    have hR1 : 2 ≤ R.frames ∧ 80 ≤ R.locals := by rw [hR]; exact ⟨Nat.le_refl _, Nat.le_refl _⟩
    have hN := hE.2.1 _ _ hEs
    refine ⟨kd5_cut_ok, fun index ci fi mode hq => kf5_ok X.2.2.2.2.1 hN.1 (index, ci, fi, mode) (am_as_mem hq), fun index ci fs hq => (am_no hq).elim, fun x v hq => (am_no hq).elim, ?_, fun o t n f hq => (am_no hq).elim, rfl, rfl, by rw [hR]; exact Nat.le_refl _, by rw [hR]; exact Nat.le_refl _⟩
    intro pc sel n0 pre0 f0 hq
    have hz : ∀ q ∈ ki5_cut, am_CK p l e R s m args below meth c D hn_cl (va_A (am_w ad ou ca w) s.heap.size) ou ca 4 q.1 q.2.2.1 q.2.2.2.1 q.2.2.2.2 := by
      refine am_allc (am_ck_V (n := 1) X hEs hE.1 (km6_at hE) (hg_good (gw_mem 318 (by decide +kernel))) rfl (List.mem_cons_of_mem _ (gw_mem 69 (by decide +kernel))) (List.mem_cons_of_mem _ (gw_mem 315 (by decide +kernel))) (List.mem_cons_of_mem _ (gw_mem 316 (by decide +kernel))) (List.mem_cons_of_mem _ (gw_mem 317 (by decide +kernel))) pa6_at (by decide +kernel) ⟨Nat.le_trans (by decide) hR1.1, Nat.le_trans (by decide) hR1.2⟩ (kd5_cut_ok (25, .invokevirtual 46, 3) (List.mem_of_getElem? (i := 15) rfl))) (am_allc (am_ck_V (n := 2) X hEs hE.1 (km5_cutBrace hE) (hg_good (gw_mem 322 (by decide +kernel))) rfl (List.mem_cons_of_mem _ (gw_mem 73 (by decide +kernel))) (List.mem_cons_of_mem _ (gw_mem 319 (by decide +kernel))) (List.mem_cons_of_mem _ (gw_mem 321 (by decide +kernel))) (List.mem_cons_of_mem _ (gw_mem 0 (by decide +kernel))) pa5_cutBrace (by decide +kernel) ⟨Nat.le_trans (by decide) hR1.1, Nat.le_trans (by decide) hR1.2⟩ (kd5_cut_ok (36, .invokevirtual 50, 3) (List.mem_of_getElem? (i := 21) rfl))) (am_allc (am_ck_V (n := 1) X hEs hE.1 (km6_at hE) (hg_good (gw_mem 318 (by decide +kernel))) rfl (List.mem_cons_of_mem _ (gw_mem 69 (by decide +kernel))) (List.mem_cons_of_mem _ (gw_mem 315 (by decide +kernel))) (List.mem_cons_of_mem _ (gw_mem 316 (by decide +kernel))) (List.mem_cons_of_mem _ (gw_mem 317 (by decide +kernel))) pa6_at (by decide +kernel) ⟨Nat.le_trans (by decide) hR1.1, Nat.le_trans (by decide) hR1.2⟩ (kd5_cut_ok (46, .invokevirtual 46, 3) (List.mem_of_getElem? (i := 27) rfl))) (am_allc (am_ck_V (n := 4) X hEs hE.1 (km5_take hE) (hg_good (gw_mem 326 (by decide +kernel))) rfl (List.mem_cons_of_mem _ (gw_mem 73 (by decide +kernel))) (List.mem_cons_of_mem _ (gw_mem 323 (by decide +kernel))) (List.mem_cons_of_mem _ (gw_mem 325 (by decide +kernel))) (List.mem_cons_of_mem _ (gw_mem 1 (by decide +kernel))) pa5_take (by decide +kernel) ⟨Nat.le_trans (by decide) hR1.1, Nat.le_trans (by decide) hR1.2⟩ (kd5_cut_ok (51, .invokevirtual 54, 3) (List.mem_of_getElem? (i := 30) rfl))) (am_allc (am_ck_max X (List.mem_cons_of_mem _ (gw_mem 330 (by decide +kernel))) (List.mem_cons_of_mem _ (gw_mem 107 (by decide +kernel))) (List.mem_cons_of_mem _ (gw_mem 70 (by decide +kernel))) (List.mem_cons_of_mem _ (gw_mem 108 (by decide +kernel))) ⟨Nat.le_trans (by decide) hR1.1, Nat.le_trans (by decide) hR1.2⟩ (kd5_cut_ok (58, .invokestatic 58, 3) (List.mem_of_getElem? (i := 35) rfl))) (am_all0)))))
    exact hz _ (am_as_mem hq)
noncomputable def ki5_has : List (Nat × Option (List Nat) × Nat × (List am_V → List am_C → Prop) × am_M) := []
noncomputable def kb5_has : am_B := (kd5_has, am_as kf5, hn_ty, fun _ => none, fun _ => none, am_as ki5_has, fun _ => none, 5, 2, (some .boolean))
noncomputable def fn5_has (x : qt5) (p0 : Int32) : Int32 := Classical.choose (⟨_, rfl⟩ : ∃ z : Int32, z = (if p0 < 0 then (0 : Int32) else (if (qg5_count x) ≤ p0 then (0 : Int32) else (if (240 : Int32) ≤ p0 then (0 : Int32) else (1 : Int32)))))
theorem fq5_has (x : qt5) (p0 : Int32) : fn5_has x p0 = (if p0 < 0 then (0 : Int32) else (if (qg5_count x) ≤ p0 then (0 : Int32) else (if (240 : Int32) ≤ p0 then (0 : Int32) else (1 : Int32)))) := Classical.choose_spec (⟨_, rfl⟩ : ∃ z : Int32, z = (if p0 < 0 then (0 : Int32) else (if (qg5_count x) ≤ p0 then (0 : Int32) else (if (240 : Int32) ≤ p0 then (0 : Int32) else (1 : Int32)))))
def wp5_has (x : qt5) (p0 : Int32) : Prop := True
set_option maxRecDepth 100000 in
set_option maxHeartbeats 4000000 in
theorem re5_has (x : qt5) (p0 : Int32) (hp : wp5_has x p0) : am_lf (am_mk kb5_has 0 0 8) [] (0, am_L0 [.inr (.inl 0), .inl p0] 2, [], (kw_S x), 0, 0) = some (some (.inl (fn5_has x p0)), (kw_S x)) := by
  unfold wp5_has at hp
  refine am_lf_eq ?_
  generalize am_lf (am_mk kb5_has 0 0 8) [] = kt
  refine am_if (c := p0 < 0) (fun h1 => ?_) (fun h1 => ?_)
  · have e : fn5_has x p0 = (0 : Int32) := by
      rw [fq5_has]
      rw [if_pos h1]
    rw [e] <;> rfl
  · refine am_if (c := (qg5_count x) ≤ p0) (fun h2 => ?_) (fun h2 => ?_)
    · have e : fn5_has x p0 = (0 : Int32) := by
        rw [fq5_has]
        rw [if_neg h1, if_pos h2]
      rw [e] <;> rfl
    · refine am_if (c := (240 : Int32) ≤ p0) (fun h3 => ?_) (fun h3 => ?_)
      · have e : fn5_has x p0 = (0 : Int32) := by
          rw [fq5_has]
          rw [if_neg h1, if_neg h2, if_pos h3]
        rw [e] <;> rfl
      · have e : fn5_has x p0 = (1 : Int32) := by
          rw [fq5_has]
          rw [if_neg h1, if_neg h2, if_neg h3]
        rw [e] <;> rfl
abbrev pr5_has : List am_V → List am_C → Prop := fun a w => ∃ (x : qt5) (p0 : Int32), a = [.inr (.inl 0), .inl p0] ∧ w = (kw_S x) ∧ wp5_has x p0
noncomputable def fm5_has : am_M := fun a w => (fun (z : Int32) => (some (.inl z), (kw_S (qs5 w 0)), 0, 0)) (fn5_has (qs5 w 0) (am_i (am_an a 1)))
theorem fe5_has (x : qt5) (p0 : Int32) : fm5_has [.inr (.inl 0), .inl p0] (kw_S x) = (some (.inl (fn5_has x p0)), (kw_S x), 0, 0) := rfl
set_option maxRecDepth 100000 in
set_option maxHeartbeats 4000000 in
theorem rn5_has : ∀ (a : List am_V) (w : List am_C), pr5_has a w → ∃ nq, am_ev (am_mk kb5_has (fm5_has a w).2.2.1 (fm5_has a w).2.2.2 w.length) [] nq (0, am_L0 a 2, [], w, 0, 0) = some ((fm5_has a w).1, (fm5_has a w).2.1) := by
  rintro a w ⟨x, p0, rfl, rfl, hp⟩
  rw [fe5_has x p0]
  exact am_lf_ev (re5_has x p0 hp)
theorem rl5_has : ∀ (a : List am_V) (w : List am_C), pr5_has a w → a.length ≤ 2 := by
  rintro a w ⟨x, p0, rfl, rfl, hp⟩
  exact Nat.le_of_ble_eq_true rfl
theorem pa5_has : ∀ a w, pr5_has a w → ∃ q a' ci fs r, a = .inr (.inl q) :: a' ∧ w[q]? = some (.inr (ci, fs)) ∧ hn_cl[ci]? = some r ∧ r.1 = hn_R5 := by
  rintro a w ⟨x, p0, rfl, rfl, hp⟩
  exact ⟨0, _, 5, _, _, rfl, rfl, rfl, rfl⟩
set_option maxRecDepth 100000 in
set_option maxHeartbeats 4000000 in
theorem km5_has {l : Launch} {E : (Nat → Prop) → State → Prop} {D : va_G} {ou : Nat → Nat} {ca : Nat → ClassId} (hE : hg_E E ou) : hg_Met l E D ou ca hy5_has prog_7_method_5_code 2 (some .boolean) 0 pr5_has fm5_has := by
  refine am_met (B := kb5_has) (cuts := []) (nt := 5) (by decide +kernel) rfl rfl (hg_tys_ok ca) ?_ (by decide) rl5_has ?_ rn5_has
  · exact fun t ht => List.mem_cons_of_mem _ (hg_arr t ht)
  · intro a w hp ad p e R s m args below meth c hR X hEs hnm
    have hR1 : 0 ≤ R.frames ∧ 0 ≤ R.locals := by rw [hR]; exact ⟨Nat.le_refl _, Nat.le_refl _⟩
    have hN := hE.2.1 _ _ hEs
    refine ⟨kd5_has_ok, fun index ci fi mode hq => kf5_ok X.2.2.2.2.1 hN.1 (index, ci, fi, mode) (am_as_mem hq), fun index ci fs hq => (am_no hq).elim, fun x v hq => (am_no hq).elim, ?_, fun o t n f hq => (am_no hq).elim, rfl, rfl, by rw [hR]; exact Nat.le_refl _, by rw [hR]; exact Nat.le_refl _⟩
    intro pc sel n0 pre0 f0 hq
    exact (am_no hq).elim
noncomputable def ki5_kind : List (Nat × Option (List Nat) × Nat × (List am_V → List am_C → Prop) × am_M) := [(2, none, 2, pr5_has, fm5_has)]
noncomputable def kb5_kind : am_B := (kd5_kind, am_as kf5, hn_ty, fun _ => none, fun _ => none, am_as ki5_kind, fun _ => none, 5, 2, (some .int))
noncomputable def fn5_kind (x : qt5) (p0 : Int32) : Int32 := Classical.choose (⟨_, rfl⟩ : ∃ z : Int32, z = (if (fn5_has x p0) = 0 then (0 : Int32) else ((qg5_kinds x) (p0).toNatClampNeg)))
theorem fq5_kind (x : qt5) (p0 : Int32) : fn5_kind x p0 = (if (fn5_has x p0) = 0 then (0 : Int32) else ((qg5_kinds x) (p0).toNatClampNeg)) := Classical.choose_spec (⟨_, rfl⟩ : ∃ z : Int32, z = (if (fn5_has x p0) = 0 then (0 : Int32) else ((qg5_kinds x) (p0).toNatClampNeg)))
def wp5_kind (x : qt5) (p0 : Int32) : Prop := ((wp5_has x p0) ∧ (((fn5_has x p0) = 0 → True) ∧ (¬ (fn5_has x p0) = 0 → (am_inb p0 240 = true))))
set_option maxRecDepth 100000 in
set_option maxHeartbeats 4000000 in
theorem re5_kind (x : qt5) (p0 : Int32) (hp : wp5_kind x p0) : am_lf (am_mk kb5_kind 0 0 8) [] (0, am_L0 [.inr (.inl 0), .inl p0] 2, [], (kw_S x), 0, 0) = some (some (.inl (fn5_kind x p0)), (kw_S x)) := by
  unfold wp5_kind at hp
  refine am_lf_eq ?_
  generalize am_lf (am_mk kb5_kind 0 0 8) [] = kt
  refine am_cx (pre := pr5_has) (f := fm5_has) (r := (some (.inl (fn5_has x p0)), (kw_S x), 0, 0)) ?_ ?_ ?_ ?_
  · exact ⟨x, p0, rfl, rfl, hp.1⟩
  · exact fe5_has x p0
  · exact rfl
  refine am_if (c := (fn5_has x p0) = 0) (fun h1 => ?_) (fun h1 => ?_)
  · have e : fn5_kind x p0 = (0 : Int32) := by
      rw [fq5_kind]
      rw [if_pos h1]
    rw [e] <;> rfl
  · have q1 := hp.2.2 h1
    refine am_ci (c := am_inb p0 240 = true) q1 ?_
    have e : fn5_kind x p0 = ((qg5_kinds x) (p0).toNatClampNeg) := by
      rw [fq5_kind]
      rw [if_neg h1]
    rw [e] <;> rfl
abbrev pr5_kind : List am_V → List am_C → Prop := fun a w => ∃ (x : qt5) (p0 : Int32), a = [.inr (.inl 0), .inl p0] ∧ w = (kw_S x) ∧ wp5_kind x p0
noncomputable def fm5_kind : am_M := fun a w => (fun (z : Int32) => (some (.inl z), (kw_S (qs5 w 0)), 0, 0)) (fn5_kind (qs5 w 0) (am_i (am_an a 1)))
theorem fe5_kind (x : qt5) (p0 : Int32) : fm5_kind [.inr (.inl 0), .inl p0] (kw_S x) = (some (.inl (fn5_kind x p0)), (kw_S x), 0, 0) := rfl
set_option maxRecDepth 100000 in
set_option maxHeartbeats 4000000 in
theorem rn5_kind : ∀ (a : List am_V) (w : List am_C), pr5_kind a w → ∃ nq, am_ev (am_mk kb5_kind (fm5_kind a w).2.2.1 (fm5_kind a w).2.2.2 w.length) [] nq (0, am_L0 a 2, [], w, 0, 0) = some ((fm5_kind a w).1, (fm5_kind a w).2.1) := by
  rintro a w ⟨x, p0, rfl, rfl, hp⟩
  rw [fe5_kind x p0]
  exact am_lf_ev (re5_kind x p0 hp)
theorem rl5_kind : ∀ (a : List am_V) (w : List am_C), pr5_kind a w → a.length ≤ 2 := by
  rintro a w ⟨x, p0, rfl, rfl, hp⟩
  exact Nat.le_of_ble_eq_true rfl
theorem pa5_kind : ∀ a w, pr5_kind a w → ∃ q a' ci fs r, a = .inr (.inl q) :: a' ∧ w[q]? = some (.inr (ci, fs)) ∧ hn_cl[ci]? = some r ∧ r.1 = hn_R5 := by
  rintro a w ⟨x, p0, rfl, rfl, hp⟩
  exact ⟨0, _, 5, _, _, rfl, rfl, rfl, rfl⟩
set_option maxRecDepth 100000 in
set_option maxHeartbeats 4000000 in
theorem km5_kind {l : Launch} {E : (Nat → Prop) → State → Prop} {D : va_G} {ou : Nat → Nat} {ca : Nat → ClassId} (hE : hg_E E ou) : hg_Met l E D ou ca hy5_kind prog_7_method_6_code 2 (some .int) 1 pr5_kind fm5_kind := by
  refine am_met (B := kb5_kind) (cuts := []) (nt := 5) (by decide +kernel) rfl rfl (hg_tys_ok ca) ?_ (by decide) rl5_kind ?_ rn5_kind
  · exact fun t ht => List.mem_cons_of_mem _ (hg_arr t ht)
  · intro a w hp ad p e R s m args below meth c hR X hEs hnm
    have hR1 : 1 ≤ R.frames ∧ 40 ≤ R.locals := by rw [hR]; exact ⟨Nat.le_refl _, Nat.le_refl _⟩
    have hN := hE.2.1 _ _ hEs
    refine ⟨kd5_kind_ok, fun index ci fi mode hq => kf5_ok X.2.2.2.2.1 hN.1 (index, ci, fi, mode) (am_as_mem hq), fun index ci fs hq => (am_no hq).elim, fun x v hq => (am_no hq).elim, ?_, fun o t n f hq => (am_no hq).elim, rfl, rfl, by rw [hR]; exact Nat.le_refl _, by rw [hR]; exact Nat.le_refl _⟩
    intro pc sel n0 pre0 f0 hq
    have hz : ∀ q ∈ ki5_kind, am_CK p l e R s m args below meth c D hn_cl (va_A (am_w ad ou ca w) s.heap.size) ou ca 2 q.1 q.2.2.1 q.2.2.2.1 q.2.2.2.2 := by
      refine am_allc (am_ck_V (n := 1) X hEs hE.1 (km5_has hE) (hg_good (gw_mem 342 (by decide +kernel))) rfl (List.mem_cons_of_mem _ (gw_mem 73 (by decide +kernel))) (List.mem_cons_of_mem _ (gw_mem 339 (by decide +kernel))) (List.mem_cons_of_mem _ (gw_mem 341 (by decide +kernel))) (List.mem_cons_of_mem _ (gw_mem 2 (by decide +kernel))) pa5_has (by decide +kernel) ⟨Nat.le_trans (by decide) hR1.1, Nat.le_trans (by decide) hR1.2⟩ (kd5_kind_ok (2, .invokevirtual 70, 3) (List.mem_of_getElem? (i := 2) rfl))) (am_all0)
    exact hz _ (am_as_mem hq)
noncomputable def ki5_sign : List (Nat × Option (List Nat) × Nat × (List am_V → List am_C → Prop) × am_M) := []
noncomputable def kb5_sign : am_B := (kd5_sign, am_as kf5, hn_ty, fun _ => none, fun _ => none, am_as ki5_sign, fun _ => none, 5, 2, (some .char))
noncomputable def fn5_sign (x : qt5) (p0 : Int32) : Int32 := Classical.choose (⟨_, rfl⟩ : ∃ z : Int32, z = (if p0 < 0 then (0 : Int32) else (if (qg5_count x) ≤ p0 then (0 : Int32) else (if (240 : Int32) ≤ p0 then (0 : Int32) else ((qg5_signs x) (p0).toNatClampNeg)))))
theorem fq5_sign (x : qt5) (p0 : Int32) : fn5_sign x p0 = (if p0 < 0 then (0 : Int32) else (if (qg5_count x) ≤ p0 then (0 : Int32) else (if (240 : Int32) ≤ p0 then (0 : Int32) else ((qg5_signs x) (p0).toNatClampNeg)))) := Classical.choose_spec (⟨_, rfl⟩ : ∃ z : Int32, z = (if p0 < 0 then (0 : Int32) else (if (qg5_count x) ≤ p0 then (0 : Int32) else (if (240 : Int32) ≤ p0 then (0 : Int32) else ((qg5_signs x) (p0).toNatClampNeg)))))
def wp5_sign (x : qt5) (p0 : Int32) : Prop := ((p0 < 0 → True) ∧ (¬ p0 < 0 → (((qg5_count x) ≤ p0 → True) ∧ (¬ (qg5_count x) ≤ p0 → (((240 : Int32) ≤ p0 → True) ∧ (¬ (240 : Int32) ≤ p0 → (am_inb p0 240 = true ∧ (am_fit .char (.inl ((qg5_signs x) (p0).toNatClampNeg)) = true))))))))
set_option maxRecDepth 100000 in
set_option maxHeartbeats 4000000 in
theorem re5_sign (x : qt5) (p0 : Int32) (hp : wp5_sign x p0) : am_lf (am_mk kb5_sign 0 0 8) [] (0, am_L0 [.inr (.inl 0), .inl p0] 2, [], (kw_S x), 0, 0) = some (some (.inl (fn5_sign x p0)), (kw_S x)) := by
  unfold wp5_sign at hp
  refine am_lf_eq ?_
  generalize am_lf (am_mk kb5_sign 0 0 8) [] = kt
  refine am_if (c := p0 < 0) (fun h1 => ?_) (fun h1 => ?_)
  · have e : fn5_sign x p0 = (0 : Int32) := by
      rw [fq5_sign]
      rw [if_pos h1]
    rw [e] <;> rfl
  · have q1 := hp.2 h1
    refine am_if (c := (qg5_count x) ≤ p0) (fun h2 => ?_) (fun h2 => ?_)
    · have e : fn5_sign x p0 = (0 : Int32) := by
        rw [fq5_sign]
        rw [if_neg h1, if_pos h2]
      rw [e] <;> rfl
    · have q2 := q1.2 h2
      refine am_if (c := (240 : Int32) ≤ p0) (fun h3 => ?_) (fun h3 => ?_)
      · have e : fn5_sign x p0 = (0 : Int32) := by
          rw [fq5_sign]
          rw [if_neg h1, if_neg h2, if_pos h3]
        rw [e] <;> rfl
      · have q3 := q2.2 h3
        refine am_ci (c := am_inb p0 240 = true) q3.1 ?_
        refine am_ci (c := am_fit .char (.inl ((qg5_signs x) (p0).toNatClampNeg)) = true) q3.2 ?_
        have e : fn5_sign x p0 = ((qg5_signs x) (p0).toNatClampNeg) := by
          rw [fq5_sign]
          rw [if_neg h1, if_neg h2, if_neg h3]
        rw [e] <;> rfl
abbrev pr5_sign : List am_V → List am_C → Prop := fun a w => ∃ (x : qt5) (p0 : Int32), a = [.inr (.inl 0), .inl p0] ∧ w = (kw_S x) ∧ wp5_sign x p0
noncomputable def fm5_sign : am_M := fun a w => (fun (z : Int32) => (some (.inl z), (kw_S (qs5 w 0)), 0, 0)) (fn5_sign (qs5 w 0) (am_i (am_an a 1)))
theorem fe5_sign (x : qt5) (p0 : Int32) : fm5_sign [.inr (.inl 0), .inl p0] (kw_S x) = (some (.inl (fn5_sign x p0)), (kw_S x), 0, 0) := rfl
set_option maxRecDepth 100000 in
set_option maxHeartbeats 4000000 in
theorem rn5_sign : ∀ (a : List am_V) (w : List am_C), pr5_sign a w → ∃ nq, am_ev (am_mk kb5_sign (fm5_sign a w).2.2.1 (fm5_sign a w).2.2.2 w.length) [] nq (0, am_L0 a 2, [], w, 0, 0) = some ((fm5_sign a w).1, (fm5_sign a w).2.1) := by
  rintro a w ⟨x, p0, rfl, rfl, hp⟩
  rw [fe5_sign x p0]
  exact am_lf_ev (re5_sign x p0 hp)
theorem rl5_sign : ∀ (a : List am_V) (w : List am_C), pr5_sign a w → a.length ≤ 2 := by
  rintro a w ⟨x, p0, rfl, rfl, hp⟩
  exact Nat.le_of_ble_eq_true rfl
theorem pa5_sign : ∀ a w, pr5_sign a w → ∃ q a' ci fs r, a = .inr (.inl q) :: a' ∧ w[q]? = some (.inr (ci, fs)) ∧ hn_cl[ci]? = some r ∧ r.1 = hn_R5 := by
  rintro a w ⟨x, p0, rfl, rfl, hp⟩
  exact ⟨0, _, 5, _, _, rfl, rfl, rfl, rfl⟩
set_option maxRecDepth 100000 in
set_option maxHeartbeats 4000000 in
theorem km5_sign {l : Launch} {E : (Nat → Prop) → State → Prop} {D : va_G} {ou : Nat → Nat} {ca : Nat → ClassId} (hE : hg_E E ou) : hg_Met l E D ou ca hy5_sign prog_7_method_7_code 2 (some .char) 0 pr5_sign fm5_sign := by
  refine am_met (B := kb5_sign) (cuts := []) (nt := 5) (by decide +kernel) rfl rfl (hg_tys_ok ca) ?_ (by decide) rl5_sign ?_ rn5_sign
  · exact fun t ht => List.mem_cons_of_mem _ (hg_arr t ht)
  · intro a w hp ad p e R s m args below meth c hR X hEs hnm
    have hR1 : 0 ≤ R.frames ∧ 0 ≤ R.locals := by rw [hR]; exact ⟨Nat.le_refl _, Nat.le_refl _⟩
    have hN := hE.2.1 _ _ hEs
    refine ⟨kd5_sign_ok, fun index ci fi mode hq => kf5_ok X.2.2.2.2.1 hN.1 (index, ci, fi, mode) (am_as_mem hq), fun index ci fs hq => (am_no hq).elim, fun x v hq => (am_no hq).elim, ?_, fun o t n f hq => (am_no hq).elim, rfl, rfl, by rw [hR]; exact Nat.le_refl _, by rw [hR]; exact Nat.le_refl _⟩
    intro pc sel n0 pre0 f0 hq
    exact (am_no hq).elim
noncomputable def ki5_variable : List (Nat × Option (List Nat) × Nat × (List am_V → List am_C → Prop) × am_M) := [(2, none, 2, pr5_has, fm5_has)]
noncomputable def kb5_variable : am_B := (kd5_variable, am_as kf5, hn_ty, fun _ => none, fun _ => none, am_as ki5_variable, fun _ => none, 5, 2, (some .int))
noncomputable def fn5_variable (x : qt5) (p0 : Int32) : Int32 := Classical.choose (⟨_, rfl⟩ : ∃ z : Int32, z = (if (fn5_has x p0) = 0 then (-1 : Int32) else ((qg5_variables x) (p0).toNatClampNeg)))
theorem fq5_variable (x : qt5) (p0 : Int32) : fn5_variable x p0 = (if (fn5_has x p0) = 0 then (-1 : Int32) else ((qg5_variables x) (p0).toNatClampNeg)) := Classical.choose_spec (⟨_, rfl⟩ : ∃ z : Int32, z = (if (fn5_has x p0) = 0 then (-1 : Int32) else ((qg5_variables x) (p0).toNatClampNeg)))
def wp5_variable (x : qt5) (p0 : Int32) : Prop := ((wp5_has x p0) ∧ (((fn5_has x p0) = 0 → True) ∧ (¬ (fn5_has x p0) = 0 → (am_inb p0 240 = true))))
set_option maxRecDepth 100000 in
set_option maxHeartbeats 4000000 in
theorem re5_variable (x : qt5) (p0 : Int32) (hp : wp5_variable x p0) : am_lf (am_mk kb5_variable 0 0 8) [] (0, am_L0 [.inr (.inl 0), .inl p0] 2, [], (kw_S x), 0, 0) = some (some (.inl (fn5_variable x p0)), (kw_S x)) := by
  unfold wp5_variable at hp
  refine am_lf_eq ?_
  generalize am_lf (am_mk kb5_variable 0 0 8) [] = kt
  refine am_cx (pre := pr5_has) (f := fm5_has) (r := (some (.inl (fn5_has x p0)), (kw_S x), 0, 0)) ?_ ?_ ?_ ?_
  · exact ⟨x, p0, rfl, rfl, hp.1⟩
  · exact fe5_has x p0
  · exact rfl
  refine am_if (c := (fn5_has x p0) = 0) (fun h1 => ?_) (fun h1 => ?_)
  · have e : fn5_variable x p0 = (-1 : Int32) := by
      rw [fq5_variable]
      rw [if_pos h1]
    rw [e] <;> rfl
  · have q1 := hp.2.2 h1
    refine am_ci (c := am_inb p0 240 = true) q1 ?_
    have e : fn5_variable x p0 = ((qg5_variables x) (p0).toNatClampNeg) := by
      rw [fq5_variable]
      rw [if_neg h1]
    rw [e] <;> rfl
abbrev pr5_variable : List am_V → List am_C → Prop := fun a w => ∃ (x : qt5) (p0 : Int32), a = [.inr (.inl 0), .inl p0] ∧ w = (kw_S x) ∧ wp5_variable x p0
noncomputable def fm5_variable : am_M := fun a w => (fun (z : Int32) => (some (.inl z), (kw_S (qs5 w 0)), 0, 0)) (fn5_variable (qs5 w 0) (am_i (am_an a 1)))
theorem fe5_variable (x : qt5) (p0 : Int32) : fm5_variable [.inr (.inl 0), .inl p0] (kw_S x) = (some (.inl (fn5_variable x p0)), (kw_S x), 0, 0) := rfl
set_option maxRecDepth 100000 in
set_option maxHeartbeats 4000000 in
theorem rn5_variable : ∀ (a : List am_V) (w : List am_C), pr5_variable a w → ∃ nq, am_ev (am_mk kb5_variable (fm5_variable a w).2.2.1 (fm5_variable a w).2.2.2 w.length) [] nq (0, am_L0 a 2, [], w, 0, 0) = some ((fm5_variable a w).1, (fm5_variable a w).2.1) := by
  rintro a w ⟨x, p0, rfl, rfl, hp⟩
  rw [fe5_variable x p0]
  exact am_lf_ev (re5_variable x p0 hp)
theorem rl5_variable : ∀ (a : List am_V) (w : List am_C), pr5_variable a w → a.length ≤ 2 := by
  rintro a w ⟨x, p0, rfl, rfl, hp⟩
  exact Nat.le_of_ble_eq_true rfl
theorem pa5_variable : ∀ a w, pr5_variable a w → ∃ q a' ci fs r, a = .inr (.inl q) :: a' ∧ w[q]? = some (.inr (ci, fs)) ∧ hn_cl[ci]? = some r ∧ r.1 = hn_R5 := by
  rintro a w ⟨x, p0, rfl, rfl, hp⟩
  exact ⟨0, _, 5, _, _, rfl, rfl, rfl, rfl⟩
set_option maxRecDepth 100000 in
set_option maxHeartbeats 4000000 in
theorem km5_variable {l : Launch} {E : (Nat → Prop) → State → Prop} {D : va_G} {ou : Nat → Nat} {ca : Nat → ClassId} (hE : hg_E E ou) : hg_Met l E D ou ca hy5_variable prog_7_method_8_code 2 (some .int) 1 pr5_variable fm5_variable := by
  refine am_met (B := kb5_variable) (cuts := []) (nt := 5) (by decide +kernel) rfl rfl (hg_tys_ok ca) ?_ (by decide) rl5_variable ?_ rn5_variable
  · exact fun t ht => List.mem_cons_of_mem _ (hg_arr t ht)
  · intro a w hp ad p e R s m args below meth c hR X hEs hnm
    have hR1 : 1 ≤ R.frames ∧ 40 ≤ R.locals := by rw [hR]; exact ⟨Nat.le_refl _, Nat.le_refl _⟩
    have hN := hE.2.1 _ _ hEs
    refine ⟨kd5_variable_ok, fun index ci fi mode hq => kf5_ok X.2.2.2.2.1 hN.1 (index, ci, fi, mode) (am_as_mem hq), fun index ci fs hq => (am_no hq).elim, fun x v hq => (am_no hq).elim, ?_, fun o t n f hq => (am_no hq).elim, rfl, rfl, by rw [hR]; exact Nat.le_refl _, by rw [hR]; exact Nat.le_refl _⟩
    intro pc sel n0 pre0 f0 hq
    have hz : ∀ q ∈ ki5_variable, am_CK p l e R s m args below meth c D hn_cl (va_A (am_w ad ou ca w) s.heap.size) ou ca 2 q.1 q.2.2.1 q.2.2.2.1 q.2.2.2.2 := by
      refine am_allc (am_ck_V (n := 1) X hEs hE.1 (km5_has hE) (hg_good (gw_mem 342 (by decide +kernel))) rfl (List.mem_cons_of_mem _ (gw_mem 73 (by decide +kernel))) (List.mem_cons_of_mem _ (gw_mem 339 (by decide +kernel))) (List.mem_cons_of_mem _ (gw_mem 341 (by decide +kernel))) (List.mem_cons_of_mem _ (gw_mem 2 (by decide +kernel))) pa5_has (by decide +kernel) ⟨Nat.le_trans (by decide) hR1.1, Nat.le_trans (by decide) hR1.2⟩ (kd5_variable_ok (2, .invokevirtual 70, 3) (List.mem_of_getElem? (i := 2) rfl))) (am_all0)
    exact hz _ (am_as_mem hq)
noncomputable def ki5_place : List (Nat × Option (List Nat) × Nat × (List am_V → List am_C → Prop) × am_M) := [(2, none, 2, pr5_has, fm5_has)]
noncomputable def kb5_place : am_B := (kd5_place, am_as kf5, hn_ty, fun _ => none, fun _ => none, am_as ki5_place, fun _ => none, 5, 2, (some .int))
noncomputable def fn5_place (x : qt5) (p0 : Int32) : Int32 := Classical.choose (⟨_, rfl⟩ : ∃ z : Int32, z = (if (fn5_has x p0) = 0 then (qg5_templateLength x) else ((qg5_places x) (p0).toNatClampNeg)))
theorem fq5_place (x : qt5) (p0 : Int32) : fn5_place x p0 = (if (fn5_has x p0) = 0 then (qg5_templateLength x) else ((qg5_places x) (p0).toNatClampNeg)) := Classical.choose_spec (⟨_, rfl⟩ : ∃ z : Int32, z = (if (fn5_has x p0) = 0 then (qg5_templateLength x) else ((qg5_places x) (p0).toNatClampNeg)))
def wp5_place (x : qt5) (p0 : Int32) : Prop := ((wp5_has x p0) ∧ (((fn5_has x p0) = 0 → True) ∧ (¬ (fn5_has x p0) = 0 → (am_inb p0 240 = true))))
set_option maxRecDepth 100000 in
set_option maxHeartbeats 4000000 in
theorem re5_place (x : qt5) (p0 : Int32) (hp : wp5_place x p0) : am_lf (am_mk kb5_place 0 0 8) [] (0, am_L0 [.inr (.inl 0), .inl p0] 2, [], (kw_S x), 0, 0) = some (some (.inl (fn5_place x p0)), (kw_S x)) := by
  unfold wp5_place at hp
  refine am_lf_eq ?_
  generalize am_lf (am_mk kb5_place 0 0 8) [] = kt
  refine am_cx (pre := pr5_has) (f := fm5_has) (r := (some (.inl (fn5_has x p0)), (kw_S x), 0, 0)) ?_ ?_ ?_ ?_
  · exact ⟨x, p0, rfl, rfl, hp.1⟩
  · exact fe5_has x p0
  · exact rfl
  refine am_if (c := (fn5_has x p0) = 0) (fun h1 => ?_) (fun h1 => ?_)
  · have e : fn5_place x p0 = (qg5_templateLength x) := by
      rw [fq5_place]
      rw [if_pos h1]
    rw [e] <;> rfl
  · have q1 := hp.2.2 h1
    refine am_ci (c := am_inb p0 240 = true) q1 ?_
    have e : fn5_place x p0 = ((qg5_places x) (p0).toNatClampNeg) := by
      rw [fq5_place]
      rw [if_neg h1]
    rw [e] <;> rfl
abbrev pr5_place : List am_V → List am_C → Prop := fun a w => ∃ (x : qt5) (p0 : Int32), a = [.inr (.inl 0), .inl p0] ∧ w = (kw_S x) ∧ wp5_place x p0
noncomputable def fm5_place : am_M := fun a w => (fun (z : Int32) => (some (.inl z), (kw_S (qs5 w 0)), 0, 0)) (fn5_place (qs5 w 0) (am_i (am_an a 1)))
theorem fe5_place (x : qt5) (p0 : Int32) : fm5_place [.inr (.inl 0), .inl p0] (kw_S x) = (some (.inl (fn5_place x p0)), (kw_S x), 0, 0) := rfl
set_option maxRecDepth 100000 in
set_option maxHeartbeats 4000000 in
theorem rn5_place : ∀ (a : List am_V) (w : List am_C), pr5_place a w → ∃ nq, am_ev (am_mk kb5_place (fm5_place a w).2.2.1 (fm5_place a w).2.2.2 w.length) [] nq (0, am_L0 a 2, [], w, 0, 0) = some ((fm5_place a w).1, (fm5_place a w).2.1) := by
  rintro a w ⟨x, p0, rfl, rfl, hp⟩
  rw [fe5_place x p0]
  exact am_lf_ev (re5_place x p0 hp)
theorem rl5_place : ∀ (a : List am_V) (w : List am_C), pr5_place a w → a.length ≤ 2 := by
  rintro a w ⟨x, p0, rfl, rfl, hp⟩
  exact Nat.le_of_ble_eq_true rfl
theorem pa5_place : ∀ a w, pr5_place a w → ∃ q a' ci fs r, a = .inr (.inl q) :: a' ∧ w[q]? = some (.inr (ci, fs)) ∧ hn_cl[ci]? = some r ∧ r.1 = hn_R5 := by
  rintro a w ⟨x, p0, rfl, rfl, hp⟩
  exact ⟨0, _, 5, _, _, rfl, rfl, rfl, rfl⟩
set_option maxRecDepth 100000 in
set_option maxHeartbeats 4000000 in
theorem km5_place {l : Launch} {E : (Nat → Prop) → State → Prop} {D : va_G} {ou : Nat → Nat} {ca : Nat → ClassId} (hE : hg_E E ou) : hg_Met l E D ou ca hy5_place prog_7_method_9_code 2 (some .int) 1 pr5_place fm5_place := by
  refine am_met (B := kb5_place) (cuts := []) (nt := 5) (by decide +kernel) rfl rfl (hg_tys_ok ca) ?_ (by decide) rl5_place ?_ rn5_place
  · exact fun t ht => List.mem_cons_of_mem _ (hg_arr t ht)
  · intro a w hp ad p e R s m args below meth c hR X hEs hnm
    have hR1 : 1 ≤ R.frames ∧ 40 ≤ R.locals := by rw [hR]; exact ⟨Nat.le_refl _, Nat.le_refl _⟩
    have hN := hE.2.1 _ _ hEs
    refine ⟨kd5_place_ok, fun index ci fi mode hq => kf5_ok X.2.2.2.2.1 hN.1 (index, ci, fi, mode) (am_as_mem hq), fun index ci fs hq => (am_no hq).elim, fun x v hq => (am_no hq).elim, ?_, fun o t n f hq => (am_no hq).elim, rfl, rfl, by rw [hR]; exact Nat.le_refl _, by rw [hR]; exact Nat.le_refl _⟩
    intro pc sel n0 pre0 f0 hq
    have hz : ∀ q ∈ ki5_place, am_CK p l e R s m args below meth c D hn_cl (va_A (am_w ad ou ca w) s.heap.size) ou ca 2 q.1 q.2.2.1 q.2.2.2.1 q.2.2.2.2 := by
      refine am_allc (am_ck_V (n := 1) X hEs hE.1 (km5_has hE) (hg_good (gw_mem 342 (by decide +kernel))) rfl (List.mem_cons_of_mem _ (gw_mem 73 (by decide +kernel))) (List.mem_cons_of_mem _ (gw_mem 339 (by decide +kernel))) (List.mem_cons_of_mem _ (gw_mem 341 (by decide +kernel))) (List.mem_cons_of_mem _ (gw_mem 2 (by decide +kernel))) pa5_has (by decide +kernel) ⟨Nat.le_trans (by decide) hR1.1, Nat.le_trans (by decide) hR1.2⟩ (kd5_place_ok (2, .invokevirtual 70, 3) (List.mem_of_getElem? (i := 2) rfl))) (am_all0)
    exact hz _ (am_as_mem hq)
noncomputable def ki5_code : List (Nat × Option (List Nat) × Nat × (List am_V → List am_C → Prop) × am_M) := [(2, none, 2, pr5_has, fm5_has)]
noncomputable def kb5_code : am_B := (kd5_code, am_as kf5, hn_ty, fun _ => none, fun _ => none, am_as ki5_code, fun _ => none, 5, 2, (some .int))
noncomputable def fn5_code (x : qt5) (p0 : Int32) : Int32 := Classical.choose (⟨_, rfl⟩ : ∃ z : Int32, z = (if (fn5_has x p0) = 0 then (-1 : Int32) else ((qg5_codes x) (p0).toNatClampNeg)))
theorem fq5_code (x : qt5) (p0 : Int32) : fn5_code x p0 = (if (fn5_has x p0) = 0 then (-1 : Int32) else ((qg5_codes x) (p0).toNatClampNeg)) := Classical.choose_spec (⟨_, rfl⟩ : ∃ z : Int32, z = (if (fn5_has x p0) = 0 then (-1 : Int32) else ((qg5_codes x) (p0).toNatClampNeg)))
def wp5_code (x : qt5) (p0 : Int32) : Prop := ((wp5_has x p0) ∧ (((fn5_has x p0) = 0 → True) ∧ (¬ (fn5_has x p0) = 0 → (am_inb p0 240 = true))))
set_option maxRecDepth 100000 in
set_option maxHeartbeats 4000000 in
theorem re5_code (x : qt5) (p0 : Int32) (hp : wp5_code x p0) : am_lf (am_mk kb5_code 0 0 8) [] (0, am_L0 [.inr (.inl 0), .inl p0] 2, [], (kw_S x), 0, 0) = some (some (.inl (fn5_code x p0)), (kw_S x)) := by
  unfold wp5_code at hp
  refine am_lf_eq ?_
  generalize am_lf (am_mk kb5_code 0 0 8) [] = kt
  refine am_cx (pre := pr5_has) (f := fm5_has) (r := (some (.inl (fn5_has x p0)), (kw_S x), 0, 0)) ?_ ?_ ?_ ?_
  · exact ⟨x, p0, rfl, rfl, hp.1⟩
  · exact fe5_has x p0
  · exact rfl
  refine am_if (c := (fn5_has x p0) = 0) (fun h1 => ?_) (fun h1 => ?_)
  · have e : fn5_code x p0 = (-1 : Int32) := by
      rw [fq5_code]
      rw [if_pos h1]
    rw [e] <;> rfl
  · have q1 := hp.2.2 h1
    refine am_ci (c := am_inb p0 240 = true) q1 ?_
    have e : fn5_code x p0 = ((qg5_codes x) (p0).toNatClampNeg) := by
      rw [fq5_code]
      rw [if_neg h1]
    rw [e] <;> rfl
abbrev pr5_code : List am_V → List am_C → Prop := fun a w => ∃ (x : qt5) (p0 : Int32), a = [.inr (.inl 0), .inl p0] ∧ w = (kw_S x) ∧ wp5_code x p0
noncomputable def fm5_code : am_M := fun a w => (fun (z : Int32) => (some (.inl z), (kw_S (qs5 w 0)), 0, 0)) (fn5_code (qs5 w 0) (am_i (am_an a 1)))
theorem fe5_code (x : qt5) (p0 : Int32) : fm5_code [.inr (.inl 0), .inl p0] (kw_S x) = (some (.inl (fn5_code x p0)), (kw_S x), 0, 0) := rfl
set_option maxRecDepth 100000 in
set_option maxHeartbeats 4000000 in
theorem rn5_code : ∀ (a : List am_V) (w : List am_C), pr5_code a w → ∃ nq, am_ev (am_mk kb5_code (fm5_code a w).2.2.1 (fm5_code a w).2.2.2 w.length) [] nq (0, am_L0 a 2, [], w, 0, 0) = some ((fm5_code a w).1, (fm5_code a w).2.1) := by
  rintro a w ⟨x, p0, rfl, rfl, hp⟩
  rw [fe5_code x p0]
  exact am_lf_ev (re5_code x p0 hp)
theorem rl5_code : ∀ (a : List am_V) (w : List am_C), pr5_code a w → a.length ≤ 2 := by
  rintro a w ⟨x, p0, rfl, rfl, hp⟩
  exact Nat.le_of_ble_eq_true rfl
theorem pa5_code : ∀ a w, pr5_code a w → ∃ q a' ci fs r, a = .inr (.inl q) :: a' ∧ w[q]? = some (.inr (ci, fs)) ∧ hn_cl[ci]? = some r ∧ r.1 = hn_R5 := by
  rintro a w ⟨x, p0, rfl, rfl, hp⟩
  exact ⟨0, _, 5, _, _, rfl, rfl, rfl, rfl⟩
set_option maxRecDepth 100000 in
set_option maxHeartbeats 4000000 in
theorem km5_code {l : Launch} {E : (Nat → Prop) → State → Prop} {D : va_G} {ou : Nat → Nat} {ca : Nat → ClassId} (hE : hg_E E ou) : hg_Met l E D ou ca hy5_code prog_7_method_10_code 2 (some .int) 1 pr5_code fm5_code := by
  refine am_met (B := kb5_code) (cuts := []) (nt := 5) (by decide +kernel) rfl rfl (hg_tys_ok ca) ?_ (by decide) rl5_code ?_ rn5_code
  · exact fun t ht => List.mem_cons_of_mem _ (hg_arr t ht)
  · intro a w hp ad p e R s m args below meth c hR X hEs hnm
    have hR1 : 1 ≤ R.frames ∧ 40 ≤ R.locals := by rw [hR]; exact ⟨Nat.le_refl _, Nat.le_refl _⟩
    have hN := hE.2.1 _ _ hEs
    refine ⟨kd5_code_ok, fun index ci fi mode hq => kf5_ok X.2.2.2.2.1 hN.1 (index, ci, fi, mode) (am_as_mem hq), fun index ci fs hq => (am_no hq).elim, fun x v hq => (am_no hq).elim, ?_, fun o t n f hq => (am_no hq).elim, rfl, rfl, by rw [hR]; exact Nat.le_refl _, by rw [hR]; exact Nat.le_refl _⟩
    intro pc sel n0 pre0 f0 hq
    have hz : ∀ q ∈ ki5_code, am_CK p l e R s m args below meth c D hn_cl (va_A (am_w ad ou ca w) s.heap.size) ou ca 2 q.1 q.2.2.1 q.2.2.2.1 q.2.2.2.2 := by
      refine am_allc (am_ck_V (n := 1) X hEs hE.1 (km5_has hE) (hg_good (gw_mem 342 (by decide +kernel))) rfl (List.mem_cons_of_mem _ (gw_mem 73 (by decide +kernel))) (List.mem_cons_of_mem _ (gw_mem 339 (by decide +kernel))) (List.mem_cons_of_mem _ (gw_mem 341 (by decide +kernel))) (List.mem_cons_of_mem _ (gw_mem 2 (by decide +kernel))) pa5_has (by decide +kernel) ⟨Nat.le_trans (by decide) hR1.1, Nat.le_trans (by decide) hR1.2⟩ (kd5_code_ok (2, .invokevirtual 70, 3) (List.mem_of_getElem? (i := 2) rfl))) (am_all0)
    exact hz _ (am_as_mem hq)
