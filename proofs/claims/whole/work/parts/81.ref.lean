noncomputable def ki10_pushOpening : List (Nat × Option (List Nat) × Nat × (List am_V → List am_C → Prop) × am_M) := [(4, none, 2, pr10_at, fm10_at), (19, none, 5, pr10_push, fm10_push), (24, some [], 1, pr10_isVariable, fm10_isVariable), (34, none, 2, pr10_at, fm10_at), (47, none, 5, pr10_push, fm10_push), (67, none, 2, pr10_at, fm10_at), (70, some [], 1, pr10_isVariable, fm10_isVariable), (80, none, 2, pr10_at, fm10_at), (104, none, 2, pr10_at, fm10_at), (109, none, 5, pr10_push, fm10_push), (129, none, 2, pr10_at, fm10_at), (152, none, 5, pr10_push, fm10_push), (162, none, 5, pr10_push, fm10_push)]
noncomputable def kb10_pushOpening : am_B := (kd10_pushOpening, am_as kf10, hn_ty, fun _ => none, fun _ => none, am_as ki10_pushOpening, fun _ => none, 5, 3, (some .int))
noncomputable def fn10_pushOpening_c100 (s : hs) (v1 : Int32) (u0 : Int32) : Int32 × hs := ((fn10_push s u0 (fn10_at s (v1 + (2 : Int32))) v1 (4 : Int32)).1, (fn10_push s u0 (fn10_at s (v1 + (2 : Int32))) v1 (4 : Int32)).2)
def wp10_pushOpening_c100 (s : hs) (v1 : Int32) (u0 : Int32) : Prop := ((wp10_at s (v1 + (2 : Int32))) ∧ (wp10_push s u0 (fn10_at s (v1 + (2 : Int32))) v1 (4 : Int32)))
set_option maxRecDepth 100000 in
set_option maxHeartbeats 4000000 in
theorem rc10_pushOpening_100 (s : hs) (v1 : Int32) (u0 : Int32) (j2 : Option am_V) (g2 : am_loO 22 j2 = true) (hp : wp10_pushOpening_c100 s v1 u0) : am_lf (am_mk kb10_pushOpening 0 0 22) [51, 63, 100, 113, 125, 149, 156] (100, [some (.inr (.inl 0)), some (.inl v1), j2], [.inl u0, .inr (.inl 0)], (hm_w s), 0, 0) = some (some (.inl ((fn10_pushOpening_c100 s v1 u0).1)), (hm_w ((fn10_pushOpening_c100 s v1 u0).2))) := by
  unfold wp10_pushOpening_c100 at hp
  refine am_lf_eq ?_
  generalize am_lf (am_mk kb10_pushOpening 0 0 22) [51, 63, 100, 113, 125, 149, 156] = kt
  refine am_cx (pre := pr10_at) (f := fm10_at) (r := (some (.inl (fn10_at s (v1 + (2 : Int32)))), (hm_w s), 0, 0)) ?_ ?_ ?_ ?_
  · exact ⟨s, (v1 + (2 : Int32)), rfl, rfl, hp.1⟩
  · exact fe10_at s (v1 + (2 : Int32))
  · exact (am_ac rfl (am_ac rfl (am_ac g2 am_a0)))
  refine am_cx (pre := pr10_push) (f := fm10_push) (r := (some (.inl ((fn10_push s u0 (fn10_at s (v1 + (2 : Int32))) v1 (4 : Int32)).1)), (hm_w ((fn10_push s u0 (fn10_at s (v1 + (2 : Int32))) v1 (4 : Int32)).2)), 0, 0)) ?_ ?_ ?_ ?_
  · exact ⟨s, u0, (fn10_at s (v1 + (2 : Int32))), v1, (4 : Int32), rfl, rfl, hp.2⟩
  · exact fe10_push s u0 (fn10_at s (v1 + (2 : Int32))) v1 (4 : Int32)
  · exact (am_ac rfl (am_ac rfl (am_ac g2 am_a0)))
  have e : fn10_pushOpening_c100 s v1 u0 = ((fn10_push s u0 (fn10_at s (v1 + (2 : Int32))) v1 (4 : Int32)).1, (fn10_push s u0 (fn10_at s (v1 + (2 : Int32))) v1 (4 : Int32)).2) := by
    rw [fn10_pushOpening_c100]
  rw [e] <;> rfl
noncomputable def fn10_pushOpening_c149 (s : hs) (v1 : Int32) (v2 : Int32) (u0 : Int32) : Int32 × hs := ((fn10_push s u0 v2 v1 (3 : Int32)).1, (fn10_push s u0 v2 v1 (3 : Int32)).2)
def wp10_pushOpening_c149 (s : hs) (v1 : Int32) (v2 : Int32) (u0 : Int32) : Prop := (wp10_push s u0 v2 v1 (3 : Int32))
set_option maxRecDepth 100000 in
set_option maxHeartbeats 4000000 in
theorem rc10_pushOpening_149 (s : hs) (v1 : Int32) (v2 : Int32) (u0 : Int32) (hp : wp10_pushOpening_c149 s v1 v2 u0) : am_lf (am_mk kb10_pushOpening 0 0 22) [51, 63, 100, 113, 125, 149, 156] (149, [some (.inr (.inl 0)), some (.inl v1), some (.inl v2)], [.inl u0, .inr (.inl 0)], (hm_w s), 0, 0) = some (some (.inl ((fn10_pushOpening_c149 s v1 v2 u0).1)), (hm_w ((fn10_pushOpening_c149 s v1 v2 u0).2))) := by
  unfold wp10_pushOpening_c149 at hp
  refine am_lf_eq ?_
  generalize am_lf (am_mk kb10_pushOpening 0 0 22) [51, 63, 100, 113, 125, 149, 156] = kt
  refine am_cx (pre := pr10_push) (f := fm10_push) (r := (some (.inl ((fn10_push s u0 v2 v1 (3 : Int32)).1)), (hm_w ((fn10_push s u0 v2 v1 (3 : Int32)).2)), 0, 0)) ?_ ?_ ?_ ?_
  · exact ⟨s, u0, v2, v1, (3 : Int32), rfl, rfl, hp⟩
  · exact fe10_push s u0 v2 v1 (3 : Int32)
  · exact rfl
  have e : fn10_pushOpening_c149 s v1 v2 u0 = ((fn10_push s u0 v2 v1 (3 : Int32)).1, (fn10_push s u0 v2 v1 (3 : Int32)).2) := by
    rw [fn10_pushOpening_c149]
  rw [e] <;> rfl
noncomputable def fn10_pushOpening_c156 (s : hs) (v1 : Int32) (v2 : Int32) : Int32 × hs := ((fn10_push s (6 : Int32) v2 v1 (1 : Int32)).1, (fn10_push s (6 : Int32) v2 v1 (1 : Int32)).2)
def wp10_pushOpening_c156 (s : hs) (v1 : Int32) (v2 : Int32) : Prop := (wp10_push s (6 : Int32) v2 v1 (1 : Int32))
set_option maxRecDepth 100000 in
set_option maxHeartbeats 4000000 in
theorem rc10_pushOpening_156 (s : hs) (v1 : Int32) (v2 : Int32) (hp : wp10_pushOpening_c156 s v1 v2) : am_lf (am_mk kb10_pushOpening 0 0 22) [51, 63, 100, 113, 125, 149, 156] (156, [some (.inr (.inl 0)), some (.inl v1), some (.inl v2)], [], (hm_w s), 0, 0) = some (some (.inl ((fn10_pushOpening_c156 s v1 v2).1)), (hm_w ((fn10_pushOpening_c156 s v1 v2).2))) := by
  unfold wp10_pushOpening_c156 at hp
  refine am_lf_eq ?_
  generalize am_lf (am_mk kb10_pushOpening 0 0 22) [51, 63, 100, 113, 125, 149, 156] = kt
  refine am_cx (pre := pr10_push) (f := fm10_push) (r := (some (.inl ((fn10_push s (6 : Int32) v2 v1 (1 : Int32)).1)), (hm_w ((fn10_push s (6 : Int32) v2 v1 (1 : Int32)).2)), 0, 0)) ?_ ?_ ?_ ?_
  · exact ⟨s, (6 : Int32), v2, v1, (1 : Int32), rfl, rfl, hp⟩
  · exact fe10_push s (6 : Int32) v2 v1 (1 : Int32)
  · exact rfl
  have e : fn10_pushOpening_c156 s v1 v2 = ((fn10_push s (6 : Int32) v2 v1 (1 : Int32)).1, (fn10_push s (6 : Int32) v2 v1 (1 : Int32)).2) := by
    rw [fn10_pushOpening_c156]
  rw [e] <;> rfl
noncomputable def fn10_pushOpening_c125 (s : hs) (v1 : Int32) (v2 : Int32) : Int32 × hs := (if (fn10_at s (v1 + (2 : Int32))) = (125 : Int32) then (if v2 = (58 : Int32) then (fn10_pushOpening_c149 s v1 v2 (4 : Int32)) else (fn10_pushOpening_c149 s v1 v2 (5 : Int32))) else (fn10_pushOpening_c156 s v1 v2))
def wp10_pushOpening_c125 (s : hs) (v1 : Int32) (v2 : Int32) : Prop := ((wp10_at s (v1 + (2 : Int32))) ∧ (((fn10_at s (v1 + (2 : Int32))) = (125 : Int32) → ((v2 = (58 : Int32) → (wp10_pushOpening_c149 s v1 v2 (4 : Int32))) ∧ (¬ v2 = (58 : Int32) → (wp10_pushOpening_c149 s v1 v2 (5 : Int32))))) ∧ (¬ (fn10_at s (v1 + (2 : Int32))) = (125 : Int32) → (wp10_pushOpening_c156 s v1 v2))))
set_option maxRecDepth 100000 in
set_option maxHeartbeats 4000000 in
theorem rc10_pushOpening_125 (s : hs) (v1 : Int32) (v2 : Int32) (hp : wp10_pushOpening_c125 s v1 v2) : am_lf (am_mk kb10_pushOpening 0 0 22) [51, 63, 100, 113, 125, 149, 156] (125, [some (.inr (.inl 0)), some (.inl v1), some (.inl v2)], [], (hm_w s), 0, 0) = some (some (.inl ((fn10_pushOpening_c125 s v1 v2).1)), (hm_w ((fn10_pushOpening_c125 s v1 v2).2))) := by
  unfold wp10_pushOpening_c125 at hp
  have i149 := @rc10_pushOpening_149
  have i156 := @rc10_pushOpening_156
  refine am_lf_eq ?_
  generalize am_lf (am_mk kb10_pushOpening 0 0 22) [51, 63, 100, 113, 125, 149, 156] = kt at i149 i156 ⊢
  refine am_cx (pre := pr10_at) (f := fm10_at) (r := (some (.inl (fn10_at s (v1 + (2 : Int32)))), (hm_w s), 0, 0)) ?_ ?_ ?_ ?_
  · exact ⟨s, (v1 + (2 : Int32)), rfl, rfl, hp.1⟩
  · exact fe10_at s (v1 + (2 : Int32))
  · exact rfl
  refine am_if (c := (fn10_at s (v1 + (2 : Int32))) = (125 : Int32)) (fun h1 => ?_) (fun h1 => ?_)
  · have q1 := hp.2.1 h1
    refine am_if (c := v2 = (58 : Int32)) (fun h2 => ?_) (fun h2 => ?_)
    · have q2 := q1.1 h2
      have e : fn10_pushOpening_c125 s v1 v2 = fn10_pushOpening_c149 s v1 v2 (4 : Int32) := by
        rw [fn10_pushOpening_c125]
        rw [if_pos h1, if_pos h2]
      rw [e]
      exact i149 s v1 v2 (4 : Int32)  q2
    · have q2 := q1.2 h2
      have e : fn10_pushOpening_c125 s v1 v2 = fn10_pushOpening_c149 s v1 v2 (5 : Int32) := by
        rw [fn10_pushOpening_c125]
        rw [if_pos h1, if_neg h2]
      rw [e]
      exact i149 s v1 v2 (5 : Int32)  q2
  · have q1 := hp.2.2 h1
    have e : fn10_pushOpening_c125 s v1 v2 = fn10_pushOpening_c156 s v1 v2 := by
      rw [fn10_pushOpening_c125]
      rw [if_neg h1]
    rw [e]
    exact i156 s v1 v2  q1
noncomputable def fn10_pushOpening_c113 (s : hs) (v1 : Int32) (v2 : Int32) : Int32 × hs := (if v2 = (58 : Int32) then (fn10_pushOpening_c125 s v1 v2) else (if v2 = (47 : Int32) then (fn10_pushOpening_c125 s v1 v2) else (fn10_pushOpening_c156 s v1 v2)))
def wp10_pushOpening_c113 (s : hs) (v1 : Int32) (v2 : Int32) : Prop := ((v2 = (58 : Int32) → (wp10_pushOpening_c125 s v1 v2)) ∧ (¬ v2 = (58 : Int32) → ((v2 = (47 : Int32) → (wp10_pushOpening_c125 s v1 v2)) ∧ (¬ v2 = (47 : Int32) → (wp10_pushOpening_c156 s v1 v2)))))
set_option maxRecDepth 100000 in
set_option maxHeartbeats 4000000 in
theorem rc10_pushOpening_113 (s : hs) (v1 : Int32) (v2 : Int32) (hp : wp10_pushOpening_c113 s v1 v2) : am_lf (am_mk kb10_pushOpening 0 0 22) [51, 63, 100, 113, 125, 149, 156] (113, [some (.inr (.inl 0)), some (.inl v1), some (.inl v2)], [], (hm_w s), 0, 0) = some (some (.inl ((fn10_pushOpening_c113 s v1 v2).1)), (hm_w ((fn10_pushOpening_c113 s v1 v2).2))) := by
  unfold wp10_pushOpening_c113 at hp
  have i125 := @rc10_pushOpening_125
  have i156 := @rc10_pushOpening_156
  refine am_lf_eq ?_
  generalize am_lf (am_mk kb10_pushOpening 0 0 22) [51, 63, 100, 113, 125, 149, 156] = kt at i125 i156 ⊢
  refine am_if (c := v2 = (58 : Int32)) (fun h1 => ?_) (fun h1 => ?_)
  · have q1 := hp.1 h1
    have e : fn10_pushOpening_c113 s v1 v2 = fn10_pushOpening_c125 s v1 v2 := by
      rw [fn10_pushOpening_c113]
      rw [if_pos h1]
    rw [e]
    exact i125 s v1 v2  q1
  · have q1 := hp.2 h1
    refine am_if (c := v2 = (47 : Int32)) (fun h2 => ?_) (fun h2 => ?_)
    · have q2 := q1.1 h2
      have e : fn10_pushOpening_c113 s v1 v2 = fn10_pushOpening_c125 s v1 v2 := by
        rw [fn10_pushOpening_c113]
        rw [if_neg h1, if_pos h2]
      rw [e]
      exact i125 s v1 v2  q2
    · have q2 := q1.2 h2
      have e : fn10_pushOpening_c113 s v1 v2 = fn10_pushOpening_c156 s v1 v2 := by
        rw [fn10_pushOpening_c113]
        rw [if_neg h1, if_neg h2]
      rw [e]
      exact i156 s v1 v2  q2
noncomputable def fn10_pushOpening_c63 (s : hs) (v1 : Int32) (v2 : Int32) : Int32 × hs := (if (fn10_isVariable (fn10_at s (v1 + (2 : Int32)))) = 0 then (fn10_pushOpening_c113 s v1 v2) else (if (fn10_at s (v1 + (3 : Int32))) = (125 : Int32) then (if v2 = (63 : Int32) then (fn10_pushOpening_c100 s v1 (2 : Int32)) else (fn10_pushOpening_c100 s v1 (3 : Int32))) else (fn10_pushOpening_c113 s v1 v2)))
def wp10_pushOpening_c63 (s : hs) (v1 : Int32) (v2 : Int32) : Prop := ((wp10_at s (v1 + (2 : Int32))) ∧ ((wp10_isVariable (fn10_at s (v1 + (2 : Int32)))) ∧ (((fn10_isVariable (fn10_at s (v1 + (2 : Int32)))) = 0 → (wp10_pushOpening_c113 s v1 v2)) ∧ (¬ (fn10_isVariable (fn10_at s (v1 + (2 : Int32)))) = 0 → ((wp10_at s (v1 + (3 : Int32))) ∧ (((fn10_at s (v1 + (3 : Int32))) = (125 : Int32) → ((v2 = (63 : Int32) → (wp10_pushOpening_c100 s v1 (2 : Int32))) ∧ (¬ v2 = (63 : Int32) → (wp10_pushOpening_c100 s v1 (3 : Int32))))) ∧ (¬ (fn10_at s (v1 + (3 : Int32))) = (125 : Int32) → (wp10_pushOpening_c113 s v1 v2))))))))
set_option maxRecDepth 100000 in
set_option maxHeartbeats 4000000 in
theorem rc10_pushOpening_63 (s : hs) (v1 : Int32) (v2 : Int32) (hp : wp10_pushOpening_c63 s v1 v2) : am_lf (am_mk kb10_pushOpening 0 0 22) [51, 63, 100, 113, 125, 149, 156] (63, [some (.inr (.inl 0)), some (.inl v1), some (.inl v2)], [], (hm_w s), 0, 0) = some (some (.inl ((fn10_pushOpening_c63 s v1 v2).1)), (hm_w ((fn10_pushOpening_c63 s v1 v2).2))) := by
  unfold wp10_pushOpening_c63 at hp
  have i100 := @rc10_pushOpening_100
  have i113 := @rc10_pushOpening_113
  refine am_lf_eq ?_
  generalize am_lf (am_mk kb10_pushOpening 0 0 22) [51, 63, 100, 113, 125, 149, 156] = kt at i100 i113 ⊢
  refine am_cx (pre := pr10_at) (f := fm10_at) (r := (some (.inl (fn10_at s (v1 + (2 : Int32)))), (hm_w s), 0, 0)) ?_ ?_ ?_ ?_
  · exact ⟨s, (v1 + (2 : Int32)), rfl, rfl, hp.1⟩
  · exact fe10_at s (v1 + (2 : Int32))
  · exact rfl
  refine am_cy (pre := pr10_isVariable) (f := fm10_isVariable) (a' := [.inl (fn10_at s (v1 + (2 : Int32)))]) (wc := []) (w' := (hm_w s)) (r := (some (.inl (fn10_isVariable (fn10_at s (v1 + (2 : Int32))))), [], 0, 0)) ?_ ?_ ?_ ?_ ?_ ?_ ?_ ?_ ?_ ?_
  · exact am_sow0 _
  · rfl
  · rfl
  · exact am_sub0 _
  · exact ⟨(fn10_at s (v1 + (2 : Int32))), rfl, rfl, hp.2.1⟩
  · exact fe10_isVariable (fn10_at s (v1 + (2 : Int32)))
  · exact rfl
  · rfl
  · exact am_mix0 _
  refine am_if (c := (fn10_isVariable (fn10_at s (v1 + (2 : Int32)))) = 0) (fun h1 => ?_) (fun h1 => ?_)
  · have q1 := hp.2.2.1 h1
    have e : fn10_pushOpening_c63 s v1 v2 = fn10_pushOpening_c113 s v1 v2 := by
      rw [fn10_pushOpening_c63]
      rw [if_pos h1]
    rw [e]
    exact i113 s v1 v2  q1
  · have q1 := hp.2.2.2 h1
    refine am_cx (pre := pr10_at) (f := fm10_at) (r := (some (.inl (fn10_at s (v1 + (3 : Int32)))), (hm_w s), 0, 0)) ?_ ?_ ?_ ?_
    · exact ⟨s, (v1 + (3 : Int32)), rfl, rfl, q1.1⟩
    · exact fe10_at s (v1 + (3 : Int32))
    · exact rfl
    refine am_if (c := (fn10_at s (v1 + (3 : Int32))) = (125 : Int32)) (fun h2 => ?_) (fun h2 => ?_)
    · have q2 := q1.2.1 h2
      refine am_if (c := v2 = (63 : Int32)) (fun h3 => ?_) (fun h3 => ?_)
      · have q3 := q2.1 h3
        have e : fn10_pushOpening_c63 s v1 v2 = fn10_pushOpening_c100 s v1 (2 : Int32) := by
          rw [fn10_pushOpening_c63]
          rw [if_neg h1, if_pos h2, if_pos h3]
        rw [e]
        exact i100 s v1 (2 : Int32) _ rfl q3
      · have q3 := q2.2 h3
        have e : fn10_pushOpening_c63 s v1 v2 = fn10_pushOpening_c100 s v1 (3 : Int32) := by
          rw [fn10_pushOpening_c63]
          rw [if_neg h1, if_pos h2, if_neg h3]
        rw [e]
        exact i100 s v1 (3 : Int32) _ rfl q3
    · have q2 := q1.2.2 h2
      have e : fn10_pushOpening_c63 s v1 v2 = fn10_pushOpening_c113 s v1 v2 := by
        rw [fn10_pushOpening_c63]
        rw [if_neg h1, if_neg h2]
      rw [e]
      exact i113 s v1 v2  q2
noncomputable def fn10_pushOpening_c51 (s : hs) (v1 : Int32) (v2 : Int32) : Int32 × hs := (if v2 = (63 : Int32) then (fn10_pushOpening_c63 s v1 v2) else (if v2 = (42 : Int32) then (fn10_pushOpening_c63 s v1 v2) else (fn10_pushOpening_c113 s v1 v2)))
def wp10_pushOpening_c51 (s : hs) (v1 : Int32) (v2 : Int32) : Prop := ((v2 = (63 : Int32) → (wp10_pushOpening_c63 s v1 v2)) ∧ (¬ v2 = (63 : Int32) → ((v2 = (42 : Int32) → (wp10_pushOpening_c63 s v1 v2)) ∧ (¬ v2 = (42 : Int32) → (wp10_pushOpening_c113 s v1 v2)))))
set_option maxRecDepth 100000 in
set_option maxHeartbeats 4000000 in
theorem rc10_pushOpening_51 (s : hs) (v1 : Int32) (v2 : Int32) (hp : wp10_pushOpening_c51 s v1 v2) : am_lf (am_mk kb10_pushOpening 0 0 22) [51, 63, 100, 113, 125, 149, 156] (51, [some (.inr (.inl 0)), some (.inl v1), some (.inl v2)], [], (hm_w s), 0, 0) = some (some (.inl ((fn10_pushOpening_c51 s v1 v2).1)), (hm_w ((fn10_pushOpening_c51 s v1 v2).2))) := by
  unfold wp10_pushOpening_c51 at hp
  have i63 := @rc10_pushOpening_63
  have i113 := @rc10_pushOpening_113
  refine am_lf_eq ?_
  generalize am_lf (am_mk kb10_pushOpening 0 0 22) [51, 63, 100, 113, 125, 149, 156] = kt at i63 i113 ⊢
  refine am_if (c := v2 = (63 : Int32)) (fun h1 => ?_) (fun h1 => ?_)
  · have q1 := hp.1 h1
    have e : fn10_pushOpening_c51 s v1 v2 = fn10_pushOpening_c63 s v1 v2 := by
      rw [fn10_pushOpening_c51]
      rw [if_pos h1]
    rw [e]
    exact i63 s v1 v2  q1
  · have q1 := hp.2 h1
    refine am_if (c := v2 = (42 : Int32)) (fun h2 => ?_) (fun h2 => ?_)
    · have q2 := q1.1 h2
      have e : fn10_pushOpening_c51 s v1 v2 = fn10_pushOpening_c63 s v1 v2 := by
        rw [fn10_pushOpening_c51]
        rw [if_neg h1, if_pos h2]
      rw [e]
      exact i63 s v1 v2  q2
    · have q2 := q1.2 h2
      have e : fn10_pushOpening_c51 s v1 v2 = fn10_pushOpening_c113 s v1 v2 := by
        rw [fn10_pushOpening_c51]
        rw [if_neg h1, if_neg h2]
      rw [e]
      exact i113 s v1 v2  q2
noncomputable def fn10_pushOpening (s : hs) (p0 : Int32) : Int32 × hs := Classical.choose (⟨_, rfl⟩ : ∃ z : Int32 × hs, z = (if (fn10_at s (p0 + (1 : Int32))) = (123 : Int32) then ((fn10_push s (0 : Int32) (fn10_at s (p0 + (1 : Int32))) p0 (2 : Int32)).1, (fn10_push s (0 : Int32) (fn10_at s (p0 + (1 : Int32))) p0 (2 : Int32)).2) else (if (fn10_isVariable (fn10_at s (p0 + (1 : Int32)))) = 0 then (fn10_pushOpening_c51 s p0 (fn10_at s (p0 + (1 : Int32)))) else (if (fn10_at s (p0 + (2 : Int32))) = (125 : Int32) then ((fn10_push s (1 : Int32) (fn10_at s (p0 + (1 : Int32))) p0 (3 : Int32)).1, (fn10_push s (1 : Int32) (fn10_at s (p0 + (1 : Int32))) p0 (3 : Int32)).2) else (fn10_pushOpening_c51 s p0 (fn10_at s (p0 + (1 : Int32))))))))
theorem fq10_pushOpening (s : hs) (p0 : Int32) : fn10_pushOpening s p0 = (if (fn10_at s (p0 + (1 : Int32))) = (123 : Int32) then ((fn10_push s (0 : Int32) (fn10_at s (p0 + (1 : Int32))) p0 (2 : Int32)).1, (fn10_push s (0 : Int32) (fn10_at s (p0 + (1 : Int32))) p0 (2 : Int32)).2) else (if (fn10_isVariable (fn10_at s (p0 + (1 : Int32)))) = 0 then (fn10_pushOpening_c51 s p0 (fn10_at s (p0 + (1 : Int32)))) else (if (fn10_at s (p0 + (2 : Int32))) = (125 : Int32) then ((fn10_push s (1 : Int32) (fn10_at s (p0 + (1 : Int32))) p0 (3 : Int32)).1, (fn10_push s (1 : Int32) (fn10_at s (p0 + (1 : Int32))) p0 (3 : Int32)).2) else (fn10_pushOpening_c51 s p0 (fn10_at s (p0 + (1 : Int32))))))) := Classical.choose_spec (⟨_, rfl⟩ : ∃ z : Int32 × hs, z = (if (fn10_at s (p0 + (1 : Int32))) = (123 : Int32) then ((fn10_push s (0 : Int32) (fn10_at s (p0 + (1 : Int32))) p0 (2 : Int32)).1, (fn10_push s (0 : Int32) (fn10_at s (p0 + (1 : Int32))) p0 (2 : Int32)).2) else (if (fn10_isVariable (fn10_at s (p0 + (1 : Int32)))) = 0 then (fn10_pushOpening_c51 s p0 (fn10_at s (p0 + (1 : Int32)))) else (if (fn10_at s (p0 + (2 : Int32))) = (125 : Int32) then ((fn10_push s (1 : Int32) (fn10_at s (p0 + (1 : Int32))) p0 (3 : Int32)).1, (fn10_push s (1 : Int32) (fn10_at s (p0 + (1 : Int32))) p0 (3 : Int32)).2) else (fn10_pushOpening_c51 s p0 (fn10_at s (p0 + (1 : Int32))))))))
def wp10_pushOpening (s : hs) (p0 : Int32) : Prop := ((wp10_at s (p0 + (1 : Int32))) ∧ (((fn10_at s (p0 + (1 : Int32))) = (123 : Int32) → (wp10_push s (0 : Int32) (fn10_at s (p0 + (1 : Int32))) p0 (2 : Int32))) ∧ (¬ (fn10_at s (p0 + (1 : Int32))) = (123 : Int32) → ((wp10_isVariable (fn10_at s (p0 + (1 : Int32)))) ∧ (((fn10_isVariable (fn10_at s (p0 + (1 : Int32)))) = 0 → (wp10_pushOpening_c51 s p0 (fn10_at s (p0 + (1 : Int32))))) ∧ (¬ (fn10_isVariable (fn10_at s (p0 + (1 : Int32)))) = 0 → ((wp10_at s (p0 + (2 : Int32))) ∧ (((fn10_at s (p0 + (2 : Int32))) = (125 : Int32) → (wp10_push s (1 : Int32) (fn10_at s (p0 + (1 : Int32))) p0 (3 : Int32))) ∧ (¬ (fn10_at s (p0 + (2 : Int32))) = (125 : Int32) → (wp10_pushOpening_c51 s p0 (fn10_at s (p0 + (1 : Int32)))))))))))))
set_option maxRecDepth 100000 in
set_option maxHeartbeats 4000000 in
theorem re10_pushOpening (s : hs) (p0 : Int32) (hp : wp10_pushOpening s p0) : am_lf (am_mk kb10_pushOpening 0 0 22) [51, 63, 100, 113, 125, 149, 156] (0, am_L0 [.inr (.inl 0), .inl p0] 3, [], (hm_w s), 0, 0) = some (some (.inl ((fn10_pushOpening s p0).1)), (hm_w ((fn10_pushOpening s p0).2))) := by
  unfold wp10_pushOpening at hp
  have i51 := @rc10_pushOpening_51
  refine am_lf_eq ?_
  generalize am_lf (am_mk kb10_pushOpening 0 0 22) [51, 63, 100, 113, 125, 149, 156] = kt at i51 ⊢
  refine am_cx (pre := pr10_at) (f := fm10_at) (r := (some (.inl (fn10_at s (p0 + (1 : Int32)))), (hm_w s), 0, 0)) ?_ ?_ ?_ ?_
  · exact ⟨s, (p0 + (1 : Int32)), rfl, rfl, hp.1⟩
  · exact fe10_at s (p0 + (1 : Int32))
  · exact rfl
  refine am_if (c := (fn10_at s (p0 + (1 : Int32))) = (123 : Int32)) (fun h1 => ?_) (fun h1 => ?_)
  · have q1 := hp.2.1 h1
    refine am_cx (pre := pr10_push) (f := fm10_push) (r := (some (.inl ((fn10_push s (0 : Int32) (fn10_at s (p0 + (1 : Int32))) p0 (2 : Int32)).1)), (hm_w ((fn10_push s (0 : Int32) (fn10_at s (p0 + (1 : Int32))) p0 (2 : Int32)).2)), 0, 0)) ?_ ?_ ?_ ?_
    · exact ⟨s, (0 : Int32), (fn10_at s (p0 + (1 : Int32))), p0, (2 : Int32), rfl, rfl, q1⟩
    · exact fe10_push s (0 : Int32) (fn10_at s (p0 + (1 : Int32))) p0 (2 : Int32)
    · exact rfl
    have e : fn10_pushOpening s p0 = ((fn10_push s (0 : Int32) (fn10_at s (p0 + (1 : Int32))) p0 (2 : Int32)).1, (fn10_push s (0 : Int32) (fn10_at s (p0 + (1 : Int32))) p0 (2 : Int32)).2) := by
      rw [fq10_pushOpening]
      rw [if_pos h1]
    rw [e] <;> rfl
  · have q1 := hp.2.2 h1
    refine am_cy (pre := pr10_isVariable) (f := fm10_isVariable) (a' := [.inl (fn10_at s (p0 + (1 : Int32)))]) (wc := []) (w' := (hm_w s)) (r := (some (.inl (fn10_isVariable (fn10_at s (p0 + (1 : Int32))))), [], 0, 0)) ?_ ?_ ?_ ?_ ?_ ?_ ?_ ?_ ?_ ?_
    · exact am_sow0 _
    · rfl
    · rfl
    · exact am_sub0 _
    · exact ⟨(fn10_at s (p0 + (1 : Int32))), rfl, rfl, q1.1⟩
    · exact fe10_isVariable (fn10_at s (p0 + (1 : Int32)))
    · exact rfl
    · rfl
    · exact am_mix0 _
    refine am_if (c := (fn10_isVariable (fn10_at s (p0 + (1 : Int32)))) = 0) (fun h2 => ?_) (fun h2 => ?_)
    · have q2 := q1.2.1 h2
      have e : fn10_pushOpening s p0 = fn10_pushOpening_c51 s p0 (fn10_at s (p0 + (1 : Int32))) := by
        rw [fq10_pushOpening]
        rw [if_neg h1, if_pos h2]
      rw [e]
      exact i51 s p0 (fn10_at s (p0 + (1 : Int32)))  q2
    · have q2 := q1.2.2 h2
      refine am_cx (pre := pr10_at) (f := fm10_at) (r := (some (.inl (fn10_at s (p0 + (2 : Int32)))), (hm_w s), 0, 0)) ?_ ?_ ?_ ?_
      · exact ⟨s, (p0 + (2 : Int32)), rfl, rfl, q2.1⟩
      · exact fe10_at s (p0 + (2 : Int32))
      · exact rfl
      refine am_if (c := (fn10_at s (p0 + (2 : Int32))) = (125 : Int32)) (fun h3 => ?_) (fun h3 => ?_)
      · have q3 := q2.2.1 h3
        refine am_cx (pre := pr10_push) (f := fm10_push) (r := (some (.inl ((fn10_push s (1 : Int32) (fn10_at s (p0 + (1 : Int32))) p0 (3 : Int32)).1)), (hm_w ((fn10_push s (1 : Int32) (fn10_at s (p0 + (1 : Int32))) p0 (3 : Int32)).2)), 0, 0)) ?_ ?_ ?_ ?_
        · exact ⟨s, (1 : Int32), (fn10_at s (p0 + (1 : Int32))), p0, (3 : Int32), rfl, rfl, q3⟩
        · exact fe10_push s (1 : Int32) (fn10_at s (p0 + (1 : Int32))) p0 (3 : Int32)
        · exact rfl
        have e : fn10_pushOpening s p0 = ((fn10_push s (1 : Int32) (fn10_at s (p0 + (1 : Int32))) p0 (3 : Int32)).1, (fn10_push s (1 : Int32) (fn10_at s (p0 + (1 : Int32))) p0 (3 : Int32)).2) := by
          rw [fq10_pushOpening]
          rw [if_neg h1, if_neg h2, if_pos h3]
        rw [e] <;> rfl
      · have q3 := q2.2.2 h3
        have e : fn10_pushOpening s p0 = fn10_pushOpening_c51 s p0 (fn10_at s (p0 + (1 : Int32))) := by
          rw [fq10_pushOpening]
          rw [if_neg h1, if_neg h2, if_neg h3]
        rw [e]
        exact i51 s p0 (fn10_at s (p0 + (1 : Int32)))  q3
abbrev pr10_pushOpening : List am_V → List am_C → Prop := fun a w => ∃ (s : hs) (p0 : Int32), a = [.inr (.inl 0), .inl p0] ∧ w = (hm_w s) ∧ wp10_pushOpening s p0
noncomputable def fm10_pushOpening : am_M := fun a w => (fun (z : Int32 × hs) => (some (.inl (z.1)), (hm_w (z.2)), 0, 0)) (fn10_pushOpening (hm_st w 0) (am_i (am_an a 1)))
theorem fe10_pushOpening (s : hs) (p0 : Int32) : fm10_pushOpening [.inr (.inl 0), .inl p0] (hm_w s) = (some (.inl ((fn10_pushOpening s p0).1)), (hm_w ((fn10_pushOpening s p0).2)), 0, 0) := rfl
set_option maxRecDepth 100000 in
set_option maxHeartbeats 4000000 in
theorem rn10_pushOpening : ∀ (a : List am_V) (w : List am_C), pr10_pushOpening a w → ∃ nq, am_ev (am_mk kb10_pushOpening (fm10_pushOpening a w).2.2.1 (fm10_pushOpening a w).2.2.2 w.length) [51, 63, 100, 113, 125, 149, 156] nq (0, am_L0 a 3, [], w, 0, 0) = some ((fm10_pushOpening a w).1, (fm10_pushOpening a w).2.1) := by
  rintro a w ⟨s, p0, rfl, rfl, hp⟩
  rw [fe10_pushOpening s p0]
  exact am_lf_ev (re10_pushOpening s p0 hp)
theorem rl10_pushOpening : ∀ (a : List am_V) (w : List am_C), pr10_pushOpening a w → a.length ≤ 3 := by
  rintro a w ⟨s, p0, rfl, rfl, hp⟩
  exact Nat.le_of_ble_eq_true rfl
theorem pa10_pushOpening : ∀ a w, pr10_pushOpening a w → ∃ q a' ci fs r, a = .inr (.inl q) :: a' ∧ w[q]? = some (.inr (ci, fs)) ∧ hn_cl[ci]? = some r ∧ r.1 = hn_R10 := by
  rintro a w ⟨s, p0, rfl, rfl, hp⟩
  exact ⟨0, _, 10, _, _, rfl, rfl, rfl, rfl⟩
set_option maxRecDepth 100000 in
set_option maxHeartbeats 4000000 in
theorem km10_pushOpening {l : Launch} {E : (Nat → Prop) → State → Prop} {D : va_G} {ou : Nat → Nat} {ca : Nat → ClassId} (hE : am_EC E) : hg_Met l E D ou ca hy10_pushOpening prog_12_method_10_code 3 (some .int) 1 pr10_pushOpening fm10_pushOpening := by
  refine am_met (B := kb10_pushOpening) (cuts := [51, 63, 100, 113, 125, 149, 156]) (nt := 5) (by decide +kernel) rfl rfl (hg_tys_ok ca) ?_ (by decide) rl10_pushOpening ?_ rn10_pushOpening
  · exact fun t ht => List.mem_cons_of_mem _ (hg_arr t ht)
  · intro a w hp ad p e R s m args below meth c hR X hEs hnm
    have hR1 : 1 ≤ R.frames ∧ 40 ≤ R.locals := by rw [hR]; exact ⟨Nat.le_refl _, Nat.le_refl _⟩
    refine ⟨kd10_pushOpening_ok, fun index ci fi mode hq => kf10_ok X.2.2.2.2.1 (index, ci, fi, mode) (am_as_mem hq), fun index ci fs hq => (am_no hq).elim, fun x v hq => (am_no hq).elim, ?_, fun o t n f hq => (am_no hq).elim, rfl, rfl, by rw [hR]; exact Nat.le_refl _, by rw [hR]; exact Nat.le_refl _⟩
    intro pc sel n0 pre0 f0 hq
    have hz : ∀ q ∈ ki10_pushOpening, am_CK p l e R s m args below meth c D hn_cl (va_A (am_w ad ou ca w) s.heap.size) ou ca 3 q.1 q.2.2.1 q.2.2.2.1 q.2.2.2.2 := by
      refine am_allc (am_ck_V (n := 1) X hEs hE (km10_at hE) (hg_good (gw_mem 1124 (by decide +kernel))) rfl (List.mem_cons_of_mem _ (gw_mem 76 (by decide +kernel))) (List.mem_cons_of_mem _ (gw_mem 1121 (by decide +kernel))) (List.mem_cons_of_mem _ (gw_mem 1123 (by decide +kernel))) (List.mem_cons_of_mem _ (gw_mem 16 (by decide +kernel))) pa10_at (by decide +kernel) ⟨Nat.le_trans (by decide) hR1.1, Nat.le_trans (by decide) hR1.2⟩ (kd10_pushOpening_ok (4, .invokevirtual 95, 3) (List.mem_of_getElem? (i := 4) rfl))) (am_allc (am_ck_V (n := 4) X hEs hE (km10_push hE) (hg_good (gw_mem 1128 (by decide +kernel))) rfl (List.mem_cons_of_mem _ (gw_mem 76 (by decide +kernel))) (List.mem_cons_of_mem _ (gw_mem 1125 (by decide +kernel))) (List.mem_cons_of_mem _ (gw_mem 1127 (by decide +kernel))) (List.mem_cons_of_mem _ (gw_mem 17 (by decide +kernel))) pa10_push (by decide +kernel) ⟨Nat.le_trans (by decide) hR1.1, Nat.le_trans (by decide) hR1.2⟩ (kd10_pushOpening_ok (19, .invokevirtual 99, 3) (List.mem_of_getElem? (i := 14) rfl))) (am_allc (am_ck_S (n := 1) X hEs hE (km10_isVariable hE) (hg_good (gw_mem 1131 (by decide +kernel))) rfl (List.mem_cons_of_mem _ (gw_mem 76 (by decide +kernel))) (List.mem_cons_of_mem _ (gw_mem 1129 (by decide +kernel))) (List.mem_cons_of_mem _ (gw_mem 1130 (by decide +kernel))) (by decide +kernel) ⟨Nat.le_trans (by decide) hR1.1, Nat.le_trans (by decide) hR1.2⟩ (kd10_pushOpening_ok (24, .invokestatic 103, 3) (List.mem_of_getElem? (i := 17) rfl))) (am_allc (am_ck_V (n := 1) X hEs hE (km10_at hE) (hg_good (gw_mem 1124 (by decide +kernel))) rfl (List.mem_cons_of_mem _ (gw_mem 76 (by decide +kernel))) (List.mem_cons_of_mem _ (gw_mem 1121 (by decide +kernel))) (List.mem_cons_of_mem _ (gw_mem 1123 (by decide +kernel))) (List.mem_cons_of_mem _ (gw_mem 16 (by decide +kernel))) pa10_at (by decide +kernel) ⟨Nat.le_trans (by decide) hR1.1, Nat.le_trans (by decide) hR1.2⟩ (kd10_pushOpening_ok (34, .invokevirtual 95, 3) (List.mem_of_getElem? (i := 23) rfl))) (am_allc (am_ck_V (n := 4) X hEs hE (km10_push hE) (hg_good (gw_mem 1128 (by decide +kernel))) rfl (List.mem_cons_of_mem _ (gw_mem 76 (by decide +kernel))) (List.mem_cons_of_mem _ (gw_mem 1125 (by decide +kernel))) (List.mem_cons_of_mem _ (gw_mem 1127 (by decide +kernel))) (List.mem_cons_of_mem _ (gw_mem 17 (by decide +kernel))) pa10_push (by decide +kernel) ⟨Nat.le_trans (by decide) hR1.1, Nat.le_trans (by decide) hR1.2⟩ (kd10_pushOpening_ok (47, .invokevirtual 99, 3) (List.mem_of_getElem? (i := 31) rfl))) (am_allc (am_ck_V (n := 1) X hEs hE (km10_at hE) (hg_good (gw_mem 1124 (by decide +kernel))) rfl (List.mem_cons_of_mem _ (gw_mem 76 (by decide +kernel))) (List.mem_cons_of_mem _ (gw_mem 1121 (by decide +kernel))) (List.mem_cons_of_mem _ (gw_mem 1123 (by decide +kernel))) (List.mem_cons_of_mem _ (gw_mem 16 (by decide +kernel))) pa10_at (by decide +kernel) ⟨Nat.le_trans (by decide) hR1.1, Nat.le_trans (by decide) hR1.2⟩ (kd10_pushOpening_ok (67, .invokevirtual 95, 3) (List.mem_of_getElem? (i := 43) rfl))) (am_allc (am_ck_S (n := 1) X hEs hE (km10_isVariable hE) (hg_good (gw_mem 1131 (by decide +kernel))) rfl (List.mem_cons_of_mem _ (gw_mem 76 (by decide +kernel))) (List.mem_cons_of_mem _ (gw_mem 1129 (by decide +kernel))) (List.mem_cons_of_mem _ (gw_mem 1130 (by decide +kernel))) (by decide +kernel) ⟨Nat.le_trans (by decide) hR1.1, Nat.le_trans (by decide) hR1.2⟩ (kd10_pushOpening_ok (70, .invokestatic 103, 3) (List.mem_of_getElem? (i := 44) rfl))) (am_allc (am_ck_V (n := 1) X hEs hE (km10_at hE) (hg_good (gw_mem 1124 (by decide +kernel))) rfl (List.mem_cons_of_mem _ (gw_mem 76 (by decide +kernel))) (List.mem_cons_of_mem _ (gw_mem 1121 (by decide +kernel))) (List.mem_cons_of_mem _ (gw_mem 1123 (by decide +kernel))) (List.mem_cons_of_mem _ (gw_mem 16 (by decide +kernel))) pa10_at (by decide +kernel) ⟨Nat.le_trans (by decide) hR1.1, Nat.le_trans (by decide) hR1.2⟩ (kd10_pushOpening_ok (80, .invokevirtual 95, 3) (List.mem_of_getElem? (i := 50) rfl))) (am_allc (am_ck_V (n := 1) X hEs hE (km10_at hE) (hg_good (gw_mem 1124 (by decide +kernel))) rfl (List.mem_cons_of_mem _ (gw_mem 76 (by decide +kernel))) (List.mem_cons_of_mem _ (gw_mem 1121 (by decide +kernel))) (List.mem_cons_of_mem _ (gw_mem 1123 (by decide +kernel))) (List.mem_cons_of_mem _ (gw_mem 16 (by decide +kernel))) pa10_at (by decide +kernel) ⟨Nat.le_trans (by decide) hR1.1, Nat.le_trans (by decide) hR1.2⟩ (kd10_pushOpening_ok (104, .invokevirtual 95, 3) (List.mem_of_getElem? (i := 64) rfl))) (am_allc (am_ck_V (n := 4) X hEs hE (km10_push hE) (hg_good (gw_mem 1128 (by decide +kernel))) rfl (List.mem_cons_of_mem _ (gw_mem 76 (by decide +kernel))) (List.mem_cons_of_mem _ (gw_mem 1125 (by decide +kernel))) (List.mem_cons_of_mem _ (gw_mem 1127 (by decide +kernel))) (List.mem_cons_of_mem _ (gw_mem 17 (by decide +kernel))) pa10_push (by decide +kernel) ⟨Nat.le_trans (by decide) hR1.1, Nat.le_trans (by decide) hR1.2⟩ (kd10_pushOpening_ok (109, .invokevirtual 99, 3) (List.mem_of_getElem? (i := 67) rfl))) (am_allc (am_ck_V (n := 1) X hEs hE (km10_at hE) (hg_good (gw_mem 1124 (by decide +kernel))) rfl (List.mem_cons_of_mem _ (gw_mem 76 (by decide +kernel))) (List.mem_cons_of_mem _ (gw_mem 1121 (by decide +kernel))) (List.mem_cons_of_mem _ (gw_mem 1123 (by decide +kernel))) (List.mem_cons_of_mem _ (gw_mem 16 (by decide +kernel))) pa10_at (by decide +kernel) ⟨Nat.le_trans (by decide) hR1.1, Nat.le_trans (by decide) hR1.2⟩ (kd10_pushOpening_ok (129, .invokevirtual 95, 3) (List.mem_of_getElem? (i := 79) rfl))) (am_allc (am_ck_V (n := 4) X hEs hE (km10_push hE) (hg_good (gw_mem 1128 (by decide +kernel))) rfl (List.mem_cons_of_mem _ (gw_mem 76 (by decide +kernel))) (List.mem_cons_of_mem _ (gw_mem 1125 (by decide +kernel))) (List.mem_cons_of_mem _ (gw_mem 1127 (by decide +kernel))) (List.mem_cons_of_mem _ (gw_mem 17 (by decide +kernel))) pa10_push (by decide +kernel) ⟨Nat.le_trans (by decide) hR1.1, Nat.le_trans (by decide) hR1.2⟩ (kd10_pushOpening_ok (152, .invokevirtual 99, 3) (List.mem_of_getElem? (i := 92) rfl))) (am_allc (am_ck_V (n := 4) X hEs hE (km10_push hE) (hg_good (gw_mem 1128 (by decide +kernel))) rfl (List.mem_cons_of_mem _ (gw_mem 76 (by decide +kernel))) (List.mem_cons_of_mem _ (gw_mem 1125 (by decide +kernel))) (List.mem_cons_of_mem _ (gw_mem 1127 (by decide +kernel))) (List.mem_cons_of_mem _ (gw_mem 17 (by decide +kernel))) pa10_push (by decide +kernel) ⟨Nat.le_trans (by decide) hR1.1, Nat.le_trans (by decide) hR1.2⟩ (kd10_pushOpening_ok (162, .invokevirtual 99, 3) (List.mem_of_getElem? (i := 99) rfl))) (am_all0)))))))))))))
    exact hz _ (am_as_mem hq)
noncomputable def ki10_findSymbols : List (Nat × Option (List Nat) × Nat × (List am_V → List am_C → Prop) × am_M) := [(28, none, 2, pr10_pushOpening, fm10_pushOpening), (44, none, 5, pr10_push, fm10_push)]
noncomputable def kb10_findSymbols : am_B := (kd10_findSymbols, am_as kf10, hn_ty, fun _ => none, fun _ => none, am_as ki10_findSymbols, fun _ => none, 5, 2, none)
noncomputable def fn10_findSymbols_c7 : Nat → hs → Int32 → hs
  | 0, s, _ => s
  | fu + 1, s, v1 => (if (hm_length s) ≤ v1 then s else (if ((hm_template s) (v1).toNatClampNeg) = (123 : Int32) then (fn10_findSymbols_c7 fu ((fn10_pushOpening s v1).2) ((fn10_pushOpening s v1).1)) else (fn10_findSymbols_c7 fu ((fn10_push s (0 : Int32) ((hm_template s) (v1).toNatClampNeg) v1 (1 : Int32)).2) ((fn10_push s (0 : Int32) ((hm_template s) (v1).toNatClampNeg) v1 (1 : Int32)).1))))
def wp10_findSymbols_c7 : Nat → hs → Int32 → Prop
  | 0, _, _ => False
  | fu + 1, s, v1 => (((hm_length s) ≤ v1 → True) ∧ (¬ (hm_length s) ≤ v1 → (am_inb v1 240 = true ∧ ((((hm_template s) (v1).toNatClampNeg) = (123 : Int32) → ((wp10_pushOpening s v1) ∧ (wp10_findSymbols_c7 fu ((fn10_pushOpening s v1).2) ((fn10_pushOpening s v1).1)))) ∧ (¬ ((hm_template s) (v1).toNatClampNeg) = (123 : Int32) → (am_inb v1 240 = true ∧ ((wp10_push s (0 : Int32) ((hm_template s) (v1).toNatClampNeg) v1 (1 : Int32)) ∧ (wp10_findSymbols_c7 fu ((fn10_push s (0 : Int32) ((hm_template s) (v1).toNatClampNeg) v1 (1 : Int32)).2) ((fn10_push s (0 : Int32) ((hm_template s) (v1).toNatClampNeg) v1 (1 : Int32)).1)))))))))
set_option maxRecDepth 100000 in
set_option maxHeartbeats 4000000 in
theorem rc10_findSymbols_7 : ∀ (fu : Nat) (s : hs) (v1 : Int32) , wp10_findSymbols_c7 fu s v1 → am_lf (am_mk kb10_findSymbols 0 0 22) [7] (7, [some (.inr (.inl 0)), some (.inl v1)], [], (hm_w s), 0, 0) = some (none, (hm_w (fn10_findSymbols_c7 fu s v1))) := by
  intro fu
  induction fu with
  | zero =>
    intro s v1 hp
    exact hp.elim
  | succ fu ih =>
    intro s v1 hp
    unfold wp10_findSymbols_c7 at hp
    refine am_lf_eq ?_
    generalize am_lf (am_mk kb10_findSymbols 0 0 22) [7] = kt at ih ⊢
    refine am_if (c := (hm_length s) ≤ v1) (fun h2 => ?_) (fun h2 => ?_)
    · have e : fn10_findSymbols_c7 (fu + 1) s v1 = s := by
        rw [fn10_findSymbols_c7]
        rw [if_pos h2]
      rw [e] <;> rfl
    · have q2 := hp.2 h2
      refine am_ci (c := am_inb v1 240 = true) q2.1 ?_
      refine am_if (c := ((hm_template s) (v1).toNatClampNeg) = (123 : Int32)) (fun h3 => ?_) (fun h3 => ?_)
      · have q3 := q2.2.1 h3
        refine am_cx (pre := pr10_pushOpening) (f := fm10_pushOpening) (r := (some (.inl ((fn10_pushOpening s v1).1)), (hm_w ((fn10_pushOpening s v1).2)), 0, 0)) ?_ ?_ ?_ ?_
        · exact ⟨s, v1, rfl, rfl, q3.1⟩
        · exact fe10_pushOpening s v1
        · exact rfl
        have e : fn10_findSymbols_c7 (fu + 1) s v1 = fn10_findSymbols_c7 fu ((fn10_pushOpening s v1).2) ((fn10_pushOpening s v1).1) := by
          rw [fn10_findSymbols_c7]
          rw [if_neg h2, if_pos h3]
        rw [e]
        exact ih ((fn10_pushOpening s v1).2) ((fn10_pushOpening s v1).1)  q3.2
      · have q3 := q2.2.2 h3
        refine am_ci (c := am_inb v1 240 = true) q3.1 ?_
        refine am_cx (pre := pr10_push) (f := fm10_push) (r := (some (.inl ((fn10_push s (0 : Int32) ((hm_template s) (v1).toNatClampNeg) v1 (1 : Int32)).1)), (hm_w ((fn10_push s (0 : Int32) ((hm_template s) (v1).toNatClampNeg) v1 (1 : Int32)).2)), 0, 0)) ?_ ?_ ?_ ?_
        · exact ⟨s, (0 : Int32), ((hm_template s) (v1).toNatClampNeg), v1, (1 : Int32), rfl, rfl, q3.2.1⟩
        · exact fe10_push s (0 : Int32) ((hm_template s) (v1).toNatClampNeg) v1 (1 : Int32)
        · exact rfl
        have e : fn10_findSymbols_c7 (fu + 1) s v1 = fn10_findSymbols_c7 fu ((fn10_push s (0 : Int32) ((hm_template s) (v1).toNatClampNeg) v1 (1 : Int32)).2) ((fn10_push s (0 : Int32) ((hm_template s) (v1).toNatClampNeg) v1 (1 : Int32)).1) := by
          rw [fn10_findSymbols_c7]
          rw [if_neg h2, if_neg h3]
        rw [e]
        exact ih ((fn10_push s (0 : Int32) ((hm_template s) (v1).toNatClampNeg) v1 (1 : Int32)).2) ((fn10_push s (0 : Int32) ((hm_template s) (v1).toNatClampNeg) v1 (1 : Int32)).1)  q3.2.2
noncomputable def fn10_findSymbols (s : hs) : hs := Classical.choose (⟨_, rfl⟩ : ∃ z : hs, z = (fn10_findSymbols_c7 hg_fu (hu_symbols s (0 : Int32)) (0 : Int32)))
theorem fq10_findSymbols (s : hs) : fn10_findSymbols s = (fn10_findSymbols_c7 hg_fu (hu_symbols s (0 : Int32)) (0 : Int32)) := Classical.choose_spec (⟨_, rfl⟩ : ∃ z : hs, z = (fn10_findSymbols_c7 hg_fu (hu_symbols s (0 : Int32)) (0 : Int32)))
def wp10_findSymbols (s : hs) : Prop := (wp10_findSymbols_c7 hg_fu (hu_symbols s (0 : Int32)) (0 : Int32))
set_option maxRecDepth 100000 in
set_option maxHeartbeats 4000000 in
theorem re10_findSymbols (s : hs) (hp : wp10_findSymbols s) : am_lf (am_mk kb10_findSymbols 0 0 22) [7] (0, am_L0 [.inr (.inl 0)] 2, [], (hm_w s), 0, 0) = some (none, (hm_w (fn10_findSymbols s))) := by
  unfold wp10_findSymbols at hp
  have i7 := @rc10_findSymbols_7
  refine am_lf_eq ?_
  generalize am_lf (am_mk kb10_findSymbols 0 0 22) [7] = kt at i7 ⊢
  refine am_sp (w' := (hm_w (hu_symbols s (0 : Int32)))) (kp_R_0_symbols s (0 : Int32)) ?_
  have e : fn10_findSymbols s = fn10_findSymbols_c7 hg_fu (hu_symbols s (0 : Int32)) (0 : Int32) := by
    rw [fq10_findSymbols]
  rw [e]
  exact i7 hg_fu (hu_symbols s (0 : Int32)) (0 : Int32)  hp
abbrev pr10_findSymbols : List am_V → List am_C → Prop := fun a w => ∃ (s : hs), a = [.inr (.inl 0)] ∧ w = (hm_w s) ∧ wp10_findSymbols s
noncomputable def fm10_findSymbols : am_M := fun a w => (fun (z : hs) => (none, (hm_w z), 0, 0)) (fn10_findSymbols (hm_st w 0))
theorem fe10_findSymbols (s : hs) : fm10_findSymbols [.inr (.inl 0)] (hm_w s) = (none, (hm_w (fn10_findSymbols s)), 0, 0) := rfl
set_option maxRecDepth 100000 in
set_option maxHeartbeats 4000000 in
theorem rn10_findSymbols : ∀ (a : List am_V) (w : List am_C), pr10_findSymbols a w → ∃ nq, am_ev (am_mk kb10_findSymbols (fm10_findSymbols a w).2.2.1 (fm10_findSymbols a w).2.2.2 w.length) [7] nq (0, am_L0 a 2, [], w, 0, 0) = some ((fm10_findSymbols a w).1, (fm10_findSymbols a w).2.1) := by
  rintro a w ⟨s, rfl, rfl, hp⟩
  rw [fe10_findSymbols s]
  exact am_lf_ev (re10_findSymbols s hp)
theorem rl10_findSymbols : ∀ (a : List am_V) (w : List am_C), pr10_findSymbols a w → a.length ≤ 2 := by
  rintro a w ⟨s, rfl, rfl, hp⟩
  exact Nat.le_of_ble_eq_true rfl
theorem pa10_findSymbols : ∀ a w, pr10_findSymbols a w → ∃ q a' ci fs r, a = .inr (.inl q) :: a' ∧ w[q]? = some (.inr (ci, fs)) ∧ hn_cl[ci]? = some r ∧ r.1 = hn_R10 := by
  rintro a w ⟨s, rfl, rfl, hp⟩
  exact ⟨0, _, 10, _, _, rfl, rfl, rfl, rfl⟩
set_option maxRecDepth 100000 in
set_option maxHeartbeats 4000000 in
theorem km10_findSymbols {l : Launch} {E : (Nat → Prop) → State → Prop} {D : va_G} {ou : Nat → Nat} {ca : Nat → ClassId} (hE : am_EC E) : hg_Met l E D ou ca hy10_findSymbols prog_12_method_11_code 2 none 2 pr10_findSymbols fm10_findSymbols := by
  refine am_met (B := kb10_findSymbols) (cuts := [7]) (nt := 5) (by decide +kernel) rfl rfl (hg_tys_ok ca) ?_ (by decide) rl10_findSymbols ?_ rn10_findSymbols
  · exact fun t ht => List.mem_cons_of_mem _ (hg_arr t ht)
  · intro a w hp ad p e R s m args below meth c hR X hEs hnm
    have hR1 : 2 ≤ R.frames ∧ 80 ≤ R.locals := by rw [hR]; exact ⟨Nat.le_refl _, Nat.le_refl _⟩
    refine ⟨kd10_findSymbols_ok, fun index ci fi mode hq => kf10_ok X.2.2.2.2.1 (index, ci, fi, mode) (am_as_mem hq), fun index ci fs hq => (am_no hq).elim, fun x v hq => (am_no hq).elim, ?_, fun o t n f hq => (am_no hq).elim, rfl, rfl, by rw [hR]; exact Nat.le_refl _, by rw [hR]; exact Nat.le_refl _⟩
    intro pc sel n0 pre0 f0 hq
    have hz : ∀ q ∈ ki10_findSymbols, am_CK p l e R s m args below meth c D hn_cl (va_A (am_w ad ou ca w) s.heap.size) ou ca 2 q.1 q.2.2.1 q.2.2.2.1 q.2.2.2.2 := by
      refine am_allc (am_ck_V (n := 1) X hEs hE (km10_pushOpening hE) (hg_good (gw_mem 1120 (by decide +kernel))) rfl (List.mem_cons_of_mem _ (gw_mem 76 (by decide +kernel))) (List.mem_cons_of_mem _ (gw_mem 1117 (by decide +kernel))) (List.mem_cons_of_mem _ (gw_mem 1119 (by decide +kernel))) (List.mem_cons_of_mem _ (gw_mem 15 (by decide +kernel))) pa10_pushOpening (by decide +kernel) ⟨Nat.le_trans (by decide) hR1.1, Nat.le_trans (by decide) hR1.2⟩ (kd10_findSymbols_ok (28, .invokevirtual 107, 3) (List.mem_of_getElem? (i := 17) rfl))) (am_allc (am_ck_V (n := 4) X hEs hE (km10_push hE) (hg_good (gw_mem 1128 (by decide +kernel))) rfl (List.mem_cons_of_mem _ (gw_mem 76 (by decide +kernel))) (List.mem_cons_of_mem _ (gw_mem 1125 (by decide +kernel))) (List.mem_cons_of_mem _ (gw_mem 1127 (by decide +kernel))) (List.mem_cons_of_mem _ (gw_mem 17 (by decide +kernel))) pa10_push (by decide +kernel) ⟨Nat.le_trans (by decide) hR1.1, Nat.le_trans (by decide) hR1.2⟩ (kd10_findSymbols_ok (44, .invokevirtual 99, 3) (List.mem_of_getElem? (i := 27) rfl))) (am_all0))
    exact hz _ (am_as_mem hq)
noncomputable def ki10_ch : List (Nat × Option (List Nat) × Nat × (List am_V → List am_C → Prop) × am_M) := []
noncomputable def kb10_ch : am_B := (kd10_ch, am_as kf10, hn_ty, fun _ => none, fun _ => none, am_as ki10_ch, fun _ => none, 5, 2, (some .char))
noncomputable def fn10_ch (s : hs) (p0 : Int32) : Int32 := Classical.choose (⟨_, rfl⟩ : ∃ z : Int32, z = (if (hm_symbols s) ≤ p0 then (0 : Int32) else (if ((hm_sort s) (p0).toNatClampNeg) = 0 then ((hm_sign s) (p0).toNatClampNeg) else (0 : Int32))))
theorem fq10_ch (s : hs) (p0 : Int32) : fn10_ch s p0 = (if (hm_symbols s) ≤ p0 then (0 : Int32) else (if ((hm_sort s) (p0).toNatClampNeg) = 0 then ((hm_sign s) (p0).toNatClampNeg) else (0 : Int32))) := Classical.choose_spec (⟨_, rfl⟩ : ∃ z : Int32, z = (if (hm_symbols s) ≤ p0 then (0 : Int32) else (if ((hm_sort s) (p0).toNatClampNeg) = 0 then ((hm_sign s) (p0).toNatClampNeg) else (0 : Int32))))
def wp10_ch (s : hs) (p0 : Int32) : Prop := (((hm_symbols s) ≤ p0 → True) ∧ (¬ (hm_symbols s) ≤ p0 → (am_inb p0 240 = true ∧ ((((hm_sort s) (p0).toNatClampNeg) = 0 → (am_inb p0 240 = true ∧ (am_fit .char (.inl ((hm_sign s) (p0).toNatClampNeg)) = true))) ∧ (¬ ((hm_sort s) (p0).toNatClampNeg) = 0 → True)))))
set_option maxRecDepth 100000 in
set_option maxHeartbeats 4000000 in
theorem re10_ch (s : hs) (p0 : Int32) (hp : wp10_ch s p0) : am_lf (am_mk kb10_ch 0 0 22) [] (0, am_L0 [.inr (.inl 0), .inl p0] 2, [], (hm_w s), 0, 0) = some (some (.inl (fn10_ch s p0)), (hm_w s)) := by
  unfold wp10_ch at hp
  refine am_lf_eq ?_
  generalize am_lf (am_mk kb10_ch 0 0 22) [] = kt
  refine am_if (c := (hm_symbols s) ≤ p0) (fun h1 => ?_) (fun h1 => ?_)
  · have e : fn10_ch s p0 = (0 : Int32) := by
      rw [fq10_ch]
      rw [if_pos h1]
    rw [e] <;> rfl
  · have q1 := hp.2 h1
    refine am_ci (c := am_inb p0 240 = true) q1.1 ?_
    refine am_if (c := ((hm_sort s) (p0).toNatClampNeg) = 0) (fun h2 => ?_) (fun h2 => ?_)
    · have q2 := q1.2.1 h2
      refine am_ci (c := am_inb p0 240 = true) q2.1 ?_
      refine am_ci (c := am_fit .char (.inl ((hm_sign s) (p0).toNatClampNeg)) = true) q2.2 ?_
      have e : fn10_ch s p0 = ((hm_sign s) (p0).toNatClampNeg) := by
        rw [fq10_ch]
        rw [if_neg h1, if_pos h2]
      rw [e] <;> rfl
    · have e : fn10_ch s p0 = (0 : Int32) := by
        rw [fq10_ch]
        rw [if_neg h1, if_neg h2]
      rw [e] <;> rfl
abbrev pr10_ch : List am_V → List am_C → Prop := fun a w => ∃ (s : hs) (p0 : Int32), a = [.inr (.inl 0), .inl p0] ∧ w = (hm_w s) ∧ wp10_ch s p0
noncomputable def fm10_ch : am_M := fun a w => (fun (z : Int32) => (some (.inl z), (hm_w (hm_st w 0)), 0, 0)) (fn10_ch (hm_st w 0) (am_i (am_an a 1)))
theorem fe10_ch (s : hs) (p0 : Int32) : fm10_ch [.inr (.inl 0), .inl p0] (hm_w s) = (some (.inl (fn10_ch s p0)), (hm_w s), 0, 0) := rfl
set_option maxRecDepth 100000 in
set_option maxHeartbeats 4000000 in
theorem rn10_ch : ∀ (a : List am_V) (w : List am_C), pr10_ch a w → ∃ nq, am_ev (am_mk kb10_ch (fm10_ch a w).2.2.1 (fm10_ch a w).2.2.2 w.length) [] nq (0, am_L0 a 2, [], w, 0, 0) = some ((fm10_ch a w).1, (fm10_ch a w).2.1) := by
  rintro a w ⟨s, p0, rfl, rfl, hp⟩
  rw [fe10_ch s p0]
  exact am_lf_ev (re10_ch s p0 hp)
theorem rl10_ch : ∀ (a : List am_V) (w : List am_C), pr10_ch a w → a.length ≤ 2 := by
  rintro a w ⟨s, p0, rfl, rfl, hp⟩
  exact Nat.le_of_ble_eq_true rfl
theorem pa10_ch : ∀ a w, pr10_ch a w → ∃ q a' ci fs r, a = .inr (.inl q) :: a' ∧ w[q]? = some (.inr (ci, fs)) ∧ hn_cl[ci]? = some r ∧ r.1 = hn_R10 := by
  rintro a w ⟨s, p0, rfl, rfl, hp⟩
  exact ⟨0, _, 10, _, _, rfl, rfl, rfl, rfl⟩
set_option maxRecDepth 100000 in
set_option maxHeartbeats 4000000 in
theorem km10_ch {l : Launch} {E : (Nat → Prop) → State → Prop} {D : va_G} {ou : Nat → Nat} {ca : Nat → ClassId} (hE : am_EC E) : hg_Met l E D ou ca hy10_ch prog_12_method_12_code 2 (some .char) 0 pr10_ch fm10_ch := by
  refine am_met (B := kb10_ch) (cuts := []) (nt := 5) (by decide +kernel) rfl rfl (hg_tys_ok ca) ?_ (by decide) rl10_ch ?_ rn10_ch
  · exact fun t ht => List.mem_cons_of_mem _ (hg_arr t ht)
  · intro a w hp ad p e R s m args below meth c hR X hEs hnm
    have hR1 : 0 ≤ R.frames ∧ 0 ≤ R.locals := by rw [hR]; exact ⟨Nat.le_refl _, Nat.le_refl _⟩
    refine ⟨kd10_ch_ok, fun index ci fi mode hq => kf10_ok X.2.2.2.2.1 (index, ci, fi, mode) (am_as_mem hq), fun index ci fs hq => (am_no hq).elim, fun x v hq => (am_no hq).elim, ?_, fun o t n f hq => (am_no hq).elim, rfl, rfl, by rw [hR]; exact Nat.le_refl _, by rw [hR]; exact Nat.le_refl _⟩
    intro pc sel n0 pre0 f0 hq
    exact (am_no hq).elim
noncomputable def ki10_isLetter : List (Nat × Option (List Nat) × Nat × (List am_V → List am_C → Prop) × am_M) := []
noncomputable def kb10_isLetter : am_B := (kd10_isLetter, am_as kf10, hn_ty, fun _ => none, fun _ => none, am_as ki10_isLetter, fun _ => none, 5, 1, (some .boolean))
noncomputable def fn10_isLetter (p0 : Int32) : Int32 := Classical.choose (⟨_, rfl⟩ : ∃ z : Int32, z = (if p0 < (97 : Int32) then (0 : Int32) else (if (122 : Int32) < p0 then (0 : Int32) else (1 : Int32))))
theorem fq10_isLetter (p0 : Int32) : fn10_isLetter p0 = (if p0 < (97 : Int32) then (0 : Int32) else (if (122 : Int32) < p0 then (0 : Int32) else (1 : Int32))) := Classical.choose_spec (⟨_, rfl⟩ : ∃ z : Int32, z = (if p0 < (97 : Int32) then (0 : Int32) else (if (122 : Int32) < p0 then (0 : Int32) else (1 : Int32))))
def wp10_isLetter (p0 : Int32) : Prop := True
set_option maxRecDepth 100000 in
set_option maxHeartbeats 4000000 in
theorem re10_isLetter (p0 : Int32) (hp : wp10_isLetter p0) : am_lf (am_mk kb10_isLetter 0 0 0) [] (0, am_L0 [.inl p0] 1, [], [], 0, 0) = some (some (.inl (fn10_isLetter p0)), []) := by
  unfold wp10_isLetter at hp
  refine am_lf_eq ?_
  generalize am_lf (am_mk kb10_isLetter 0 0 0) [] = kt
  refine am_if (c := p0 < (97 : Int32)) (fun h1 => ?_) (fun h1 => ?_)
  · have e : fn10_isLetter p0 = (0 : Int32) := by
      rw [fq10_isLetter]
      rw [if_pos h1]
    rw [e] <;> rfl
  · refine am_if (c := (122 : Int32) < p0) (fun h2 => ?_) (fun h2 => ?_)
    · have e : fn10_isLetter p0 = (0 : Int32) := by
        rw [fq10_isLetter]
        rw [if_neg h1, if_pos h2]
      rw [e] <;> rfl
    · have e : fn10_isLetter p0 = (1 : Int32) := by
        rw [fq10_isLetter]
        rw [if_neg h1, if_neg h2]
      rw [e] <;> rfl
abbrev pr10_isLetter : List am_V → List am_C → Prop := fun a w => ∃ (p0 : Int32), a = [.inl p0] ∧ w = [] ∧ wp10_isLetter p0
noncomputable def fm10_isLetter : am_M := fun a w => (fun (z : Int32) => (some (.inl z), [], 0, 0)) (fn10_isLetter (am_i (am_an a 0)))
theorem fe10_isLetter (p0 : Int32) : fm10_isLetter [.inl p0] [] = (some (.inl (fn10_isLetter p0)), [], 0, 0) := rfl
set_option maxRecDepth 100000 in
set_option maxHeartbeats 4000000 in
theorem rn10_isLetter : ∀ (a : List am_V) (w : List am_C), pr10_isLetter a w → ∃ nq, am_ev (am_mk kb10_isLetter (fm10_isLetter a w).2.2.1 (fm10_isLetter a w).2.2.2 w.length) [] nq (0, am_L0 a 1, [], w, 0, 0) = some ((fm10_isLetter a w).1, (fm10_isLetter a w).2.1) := by
  rintro a w ⟨p0, rfl, rfl, hp⟩
  rw [fe10_isLetter p0]
  exact am_lf_ev (re10_isLetter p0 hp)
theorem rl10_isLetter : ∀ (a : List am_V) (w : List am_C), pr10_isLetter a w → a.length ≤ 1 := by
  rintro a w ⟨p0, rfl, rfl, hp⟩
  exact Nat.le_of_ble_eq_true rfl
set_option maxRecDepth 100000 in
set_option maxHeartbeats 4000000 in
theorem km10_isLetter {l : Launch} {E : (Nat → Prop) → State → Prop} {D : va_G} {ou : Nat → Nat} {ca : Nat → ClassId} (hE : am_EC E) : hg_Met l E D ou ca hy10_isLetter prog_12_method_13_code 1 (some .boolean) 0 pr10_isLetter fm10_isLetter := by
  refine am_met (B := kb10_isLetter) (cuts := []) (nt := 5) (by decide +kernel) rfl rfl (hg_tys_ok ca) ?_ (by decide) rl10_isLetter ?_ rn10_isLetter
  · exact fun t ht => List.mem_cons_of_mem _ (hg_arr t ht)
  · intro a w hp ad p e R s m args below meth c hR X hEs hnm
    have hR1 : 0 ≤ R.frames ∧ 0 ≤ R.locals := by rw [hR]; exact ⟨Nat.le_refl _, Nat.le_refl _⟩
    refine ⟨kd10_isLetter_ok, fun index ci fi mode hq => kf10_ok X.2.2.2.2.1 (index, ci, fi, mode) (am_as_mem hq), fun index ci fs hq => (am_no hq).elim, fun x v hq => (am_no hq).elim, ?_, fun o t n f hq => (am_no hq).elim, rfl, rfl, by rw [hR]; exact Nat.le_refl _, by rw [hR]; exact Nat.le_refl _⟩
    intro pc sel n0 pre0 f0 hq
    exact (am_no hq).elim
noncomputable def ki10_isWord : List (Nat × Option (List Nat) × Nat × (List am_V → List am_C → Prop) × am_M) := [(1, some [], 1, pr10_isLetter, fm10_isLetter)]
noncomputable def kb10_isWord : am_B := (kd10_isWord, am_as kf10, hn_ty, fun _ => none, fun _ => none, am_as ki10_isWord, fun _ => none, 5, 1, (some .boolean))
noncomputable def fn10_isWord_c31 : Int32 := (1 : Int32)
def wp10_isWord_c31 : Prop := True
set_option maxRecDepth 100000 in
set_option maxHeartbeats 4000000 in
theorem rc10_isWord_31 (j0 : Option am_V) (g0 : am_loO 0 j0 = true) (hp : wp10_isWord_c31 ) : am_lf (am_mk kb10_isWord 0 0 0) [19, 31] (31, [j0], [], [], 0, 0) = some (some (.inl (fn10_isWord_c31 )), []) := by
  unfold wp10_isWord_c31 at hp
  refine am_lf_eq ?_
  generalize am_lf (am_mk kb10_isWord 0 0 0) [19, 31] = kt
  have e : fn10_isWord_c31  = (1 : Int32) := by
    rw [fn10_isWord_c31]
  rw [e] <;> rfl
noncomputable def fn10_isWord_c19 (v0 : Int32) : Int32 := (if v0 < (48 : Int32) then (0 : Int32) else (if (57 : Int32) < v0 then (0 : Int32) else (fn10_isWord_c31 )))
def wp10_isWord_c19 (v0 : Int32) : Prop := ((v0 < (48 : Int32) → True) ∧ (¬ v0 < (48 : Int32) → (((57 : Int32) < v0 → True) ∧ (¬ (57 : Int32) < v0 → (wp10_isWord_c31 )))))
set_option maxRecDepth 100000 in
set_option maxHeartbeats 4000000 in
theorem rc10_isWord_19 (v0 : Int32) (hp : wp10_isWord_c19 v0) : am_lf (am_mk kb10_isWord 0 0 0) [19, 31] (19, [some (.inl v0)], [], [], 0, 0) = some (some (.inl (fn10_isWord_c19 v0)), []) := by
  unfold wp10_isWord_c19 at hp
  have i31 := @rc10_isWord_31
  refine am_lf_eq ?_
  generalize am_lf (am_mk kb10_isWord 0 0 0) [19, 31] = kt at i31 ⊢
  refine am_if (c := v0 < (48 : Int32)) (fun h1 => ?_) (fun h1 => ?_)
  · have e : fn10_isWord_c19 v0 = (0 : Int32) := by
      rw [fn10_isWord_c19]
      rw [if_pos h1]
    rw [e] <;> rfl
  · have q1 := hp.2 h1
    refine am_if (c := (57 : Int32) < v0) (fun h2 => ?_) (fun h2 => ?_)
    · have e : fn10_isWord_c19 v0 = (0 : Int32) := by
        rw [fn10_isWord_c19]
        rw [if_neg h1, if_pos h2]
      rw [e] <;> rfl
    · have q2 := q1.2 h2
      have e : fn10_isWord_c19 v0 = fn10_isWord_c31  := by
        rw [fn10_isWord_c19]
        rw [if_neg h1, if_neg h2]
      rw [e]
      exact i31  _ rfl q2
noncomputable def fn10_isWord (p0 : Int32) : Int32 := Classical.choose (⟨_, rfl⟩ : ∃ z : Int32, z = (if (fn10_isLetter p0) = 0 then (if p0 < (65 : Int32) then (fn10_isWord_c19 p0) else (if p0 ≤ (90 : Int32) then (fn10_isWord_c31 ) else (fn10_isWord_c19 p0))) else (fn10_isWord_c31 )))
theorem fq10_isWord (p0 : Int32) : fn10_isWord p0 = (if (fn10_isLetter p0) = 0 then (if p0 < (65 : Int32) then (fn10_isWord_c19 p0) else (if p0 ≤ (90 : Int32) then (fn10_isWord_c31 ) else (fn10_isWord_c19 p0))) else (fn10_isWord_c31 )) := Classical.choose_spec (⟨_, rfl⟩ : ∃ z : Int32, z = (if (fn10_isLetter p0) = 0 then (if p0 < (65 : Int32) then (fn10_isWord_c19 p0) else (if p0 ≤ (90 : Int32) then (fn10_isWord_c31 ) else (fn10_isWord_c19 p0))) else (fn10_isWord_c31 )))
def wp10_isWord (p0 : Int32) : Prop := ((wp10_isLetter p0) ∧ (((fn10_isLetter p0) = 0 → ((p0 < (65 : Int32) → (wp10_isWord_c19 p0)) ∧ (¬ p0 < (65 : Int32) → ((p0 ≤ (90 : Int32) → (wp10_isWord_c31 )) ∧ (¬ p0 ≤ (90 : Int32) → (wp10_isWord_c19 p0)))))) ∧ (¬ (fn10_isLetter p0) = 0 → (wp10_isWord_c31 ))))
set_option maxRecDepth 100000 in
set_option maxHeartbeats 4000000 in
theorem re10_isWord (p0 : Int32) (hp : wp10_isWord p0) : am_lf (am_mk kb10_isWord 0 0 0) [19, 31] (0, am_L0 [.inl p0] 1, [], [], 0, 0) = some (some (.inl (fn10_isWord p0)), []) := by
  unfold wp10_isWord at hp
  have i19 := @rc10_isWord_19
  have i31 := @rc10_isWord_31
  refine am_lf_eq ?_
  generalize am_lf (am_mk kb10_isWord 0 0 0) [19, 31] = kt at i19 i31 ⊢
  refine am_cy (pre := pr10_isLetter) (f := fm10_isLetter) (a' := [.inl p0]) (wc := []) (w' := []) (r := (some (.inl (fn10_isLetter p0)), [], 0, 0)) ?_ ?_ ?_ ?_ ?_ ?_ ?_ ?_ ?_ ?_
  · exact am_sow0 _
  · rfl
  · rfl
  · exact am_sub0 _
  · exact ⟨p0, rfl, rfl, hp.1⟩
  · exact fe10_isLetter p0
  · exact rfl
  · rfl
  · exact am_mix0 _
  refine am_if (c := (fn10_isLetter p0) = 0) (fun h1 => ?_) (fun h1 => ?_)
  · have q1 := hp.2.1 h1
    refine am_if (c := p0 < (65 : Int32)) (fun h2 => ?_) (fun h2 => ?_)
    · have q2 := q1.1 h2
      have e : fn10_isWord p0 = fn10_isWord_c19 p0 := by
        rw [fq10_isWord]
        rw [if_pos h1, if_pos h2]
      rw [e]
      exact i19 p0  q2
    · have q2 := q1.2 h2
      refine am_if (c := p0 ≤ (90 : Int32)) (fun h3 => ?_) (fun h3 => ?_)
      · have q3 := q2.1 h3
        have e : fn10_isWord p0 = fn10_isWord_c31  := by
          rw [fq10_isWord]
          rw [if_pos h1, if_neg h2, if_pos h3]
        rw [e]
        exact i31  _ rfl q3
      · have q3 := q2.2 h3
        have e : fn10_isWord p0 = fn10_isWord_c19 p0 := by
          rw [fq10_isWord]
          rw [if_pos h1, if_neg h2, if_neg h3]
        rw [e]
        exact i19 p0  q3
  · have q1 := hp.2.2 h1
    have e : fn10_isWord p0 = fn10_isWord_c31  := by
      rw [fq10_isWord]
      rw [if_neg h1]
    rw [e]
    exact i31  _ rfl q1
abbrev pr10_isWord : List am_V → List am_C → Prop := fun a w => ∃ (p0 : Int32), a = [.inl p0] ∧ w = [] ∧ wp10_isWord p0
noncomputable def fm10_isWord : am_M := fun a w => (fun (z : Int32) => (some (.inl z), [], 0, 0)) (fn10_isWord (am_i (am_an a 0)))
theorem fe10_isWord (p0 : Int32) : fm10_isWord [.inl p0] [] = (some (.inl (fn10_isWord p0)), [], 0, 0) := rfl
set_option maxRecDepth 100000 in
set_option maxHeartbeats 4000000 in
theorem rn10_isWord : ∀ (a : List am_V) (w : List am_C), pr10_isWord a w → ∃ nq, am_ev (am_mk kb10_isWord (fm10_isWord a w).2.2.1 (fm10_isWord a w).2.2.2 w.length) [19, 31] nq (0, am_L0 a 1, [], w, 0, 0) = some ((fm10_isWord a w).1, (fm10_isWord a w).2.1) := by
  rintro a w ⟨p0, rfl, rfl, hp⟩
  rw [fe10_isWord p0]
  exact am_lf_ev (re10_isWord p0 hp)
theorem rl10_isWord : ∀ (a : List am_V) (w : List am_C), pr10_isWord a w → a.length ≤ 1 := by
  rintro a w ⟨p0, rfl, rfl, hp⟩
  exact Nat.le_of_ble_eq_true rfl
set_option maxRecDepth 100000 in
set_option maxHeartbeats 4000000 in
theorem km10_isWord {l : Launch} {E : (Nat → Prop) → State → Prop} {D : va_G} {ou : Nat → Nat} {ca : Nat → ClassId} (hE : am_EC E) : hg_Met l E D ou ca hy10_isWord prog_12_method_14_code 1 (some .boolean) 1 pr10_isWord fm10_isWord := by
  refine am_met (B := kb10_isWord) (cuts := [19, 31]) (nt := 5) (by decide +kernel) rfl rfl (hg_tys_ok ca) ?_ (by decide) rl10_isWord ?_ rn10_isWord
  · exact fun t ht => List.mem_cons_of_mem _ (hg_arr t ht)
  · intro a w hp ad p e R s m args below meth c hR X hEs hnm
    have hR1 : 1 ≤ R.frames ∧ 40 ≤ R.locals := by rw [hR]; exact ⟨Nat.le_refl _, Nat.le_refl _⟩
    refine ⟨kd10_isWord_ok, fun index ci fi mode hq => kf10_ok X.2.2.2.2.1 (index, ci, fi, mode) (am_as_mem hq), fun index ci fs hq => (am_no hq).elim, fun x v hq => (am_no hq).elim, ?_, fun o t n f hq => (am_no hq).elim, rfl, rfl, by rw [hR]; exact Nat.le_refl _, by rw [hR]; exact Nat.le_refl _⟩
    intro pc sel n0 pre0 f0 hq
    have hz : ∀ q ∈ ki10_isWord, am_CK p l e R s m args below meth c D hn_cl (va_A (am_w ad ou ca w) s.heap.size) ou ca 1 q.1 q.2.2.1 q.2.2.2.1 q.2.2.2.2 := by
      refine am_allc (am_ck_S (n := 1) X hEs hE (km10_isLetter hE) (hg_good (gw_mem 1157 (by decide +kernel))) rfl (List.mem_cons_of_mem _ (gw_mem 76 (by decide +kernel))) (List.mem_cons_of_mem _ (gw_mem 1155 (by decide +kernel))) (List.mem_cons_of_mem _ (gw_mem 1156 (by decide +kernel))) (by decide +kernel) ⟨Nat.le_trans (by decide) hR1.1, Nat.le_trans (by decide) hR1.2⟩ (kd10_isWord_ok (1, .invokestatic 111, 3) (List.mem_of_getElem? (i := 1) rfl))) (am_all0)
    exact hz _ (am_as_mem hq)
noncomputable def ki10_isBlank : List (Nat × Option (List Nat) × Nat × (List am_V → List am_C → Prop) × am_M) := []
noncomputable def kb10_isBlank : am_B := (kd10_isBlank, am_as kf10, hn_ty, fun _ => none, fun _ => none, am_as ki10_isBlank, fun _ => none, 5, 1, (some .boolean))
noncomputable def fn10_isBlank (p0 : Int32) : Int32 := Classical.choose (⟨_, rfl⟩ : ∃ z : Int32, z = (if p0 = (32 : Int32) then (1 : Int32) else (if p0 = (10 : Int32) then (1 : Int32) else (0 : Int32))))
theorem fq10_isBlank (p0 : Int32) : fn10_isBlank p0 = (if p0 = (32 : Int32) then (1 : Int32) else (if p0 = (10 : Int32) then (1 : Int32) else (0 : Int32))) := Classical.choose_spec (⟨_, rfl⟩ : ∃ z : Int32, z = (if p0 = (32 : Int32) then (1 : Int32) else (if p0 = (10 : Int32) then (1 : Int32) else (0 : Int32))))
def wp10_isBlank (p0 : Int32) : Prop := True
set_option maxRecDepth 100000 in
set_option maxHeartbeats 4000000 in
theorem re10_isBlank (p0 : Int32) (hp : wp10_isBlank p0) : am_lf (am_mk kb10_isBlank 0 0 0) [] (0, am_L0 [.inl p0] 1, [], [], 0, 0) = some (some (.inl (fn10_isBlank p0)), []) := by
  unfold wp10_isBlank at hp
  refine am_lf_eq ?_
  generalize am_lf (am_mk kb10_isBlank 0 0 0) [] = kt
  refine am_if (c := p0 = (32 : Int32)) (fun h1 => ?_) (fun h1 => ?_)
  · have e : fn10_isBlank p0 = (1 : Int32) := by
      rw [fq10_isBlank]
      rw [if_pos h1]
    rw [e] <;> rfl
  · refine am_if (c := p0 = (10 : Int32)) (fun h2 => ?_) (fun h2 => ?_)
    · have e : fn10_isBlank p0 = (1 : Int32) := by
        rw [fq10_isBlank]
        rw [if_neg h1, if_pos h2]
      rw [e] <;> rfl
    · have e : fn10_isBlank p0 = (0 : Int32) := by
        rw [fq10_isBlank]
        rw [if_neg h1, if_neg h2]
      rw [e] <;> rfl
abbrev pr10_isBlank : List am_V → List am_C → Prop := fun a w => ∃ (p0 : Int32), a = [.inl p0] ∧ w = [] ∧ wp10_isBlank p0
noncomputable def fm10_isBlank : am_M := fun a w => (fun (z : Int32) => (some (.inl z), [], 0, 0)) (fn10_isBlank (am_i (am_an a 0)))
theorem fe10_isBlank (p0 : Int32) : fm10_isBlank [.inl p0] [] = (some (.inl (fn10_isBlank p0)), [], 0, 0) := rfl
set_option maxRecDepth 100000 in
set_option maxHeartbeats 4000000 in
theorem rn10_isBlank : ∀ (a : List am_V) (w : List am_C), pr10_isBlank a w → ∃ nq, am_ev (am_mk kb10_isBlank (fm10_isBlank a w).2.2.1 (fm10_isBlank a w).2.2.2 w.length) [] nq (0, am_L0 a 1, [], w, 0, 0) = some ((fm10_isBlank a w).1, (fm10_isBlank a w).2.1) := by
  rintro a w ⟨p0, rfl, rfl, hp⟩
  rw [fe10_isBlank p0]
  exact am_lf_ev (re10_isBlank p0 hp)
theorem rl10_isBlank : ∀ (a : List am_V) (w : List am_C), pr10_isBlank a w → a.length ≤ 1 := by
  rintro a w ⟨p0, rfl, rfl, hp⟩
  exact Nat.le_of_ble_eq_true rfl
set_option maxRecDepth 100000 in
set_option maxHeartbeats 4000000 in
theorem km10_isBlank {l : Launch} {E : (Nat → Prop) → State → Prop} {D : va_G} {ou : Nat → Nat} {ca : Nat → ClassId} (hE : am_EC E) : hg_Met l E D ou ca hy10_isBlank prog_12_method_15_code 1 (some .boolean) 0 pr10_isBlank fm10_isBlank := by
  refine am_met (B := kb10_isBlank) (cuts := []) (nt := 5) (by decide +kernel) rfl rfl (hg_tys_ok ca) ?_ (by decide) rl10_isBlank ?_ rn10_isBlank
  · exact fun t ht => List.mem_cons_of_mem _ (hg_arr t ht)
  · intro a w hp ad p e R s m args below meth c hR X hEs hnm
    have hR1 : 0 ≤ R.frames ∧ 0 ≤ R.locals := by rw [hR]; exact ⟨Nat.le_refl _, Nat.le_refl _⟩
    refine ⟨kd10_isBlank_ok, fun index ci fi mode hq => kf10_ok X.2.2.2.2.1 (index, ci, fi, mode) (am_as_mem hq), fun index ci fs hq => (am_no hq).elim, fun x v hq => (am_no hq).elim, ?_, fun o t n f hq => (am_no hq).elim, rfl, rfl, by rw [hR]; exact Nat.le_refl _, by rw [hR]; exact Nat.le_refl _⟩
    intro pc sel n0 pre0 f0 hq
    exact (am_no hq).elim
noncomputable def ki10_lettersFrom : List (Nat × Option (List Nat) × Nat × (List am_V → List am_C → Prop) × am_M) := [(6, none, 2, pr10_ch, fm10_ch), (9, some [], 1, pr10_isLetter, fm10_isLetter)]
noncomputable def kb10_lettersFrom : am_B := (kd10_lettersFrom, am_as kf10, hn_ty, fun _ => none, fun _ => none, am_as ki10_lettersFrom, fun _ => none, 5, 3, (some .int))
noncomputable def fn10_lettersFrom_c2 : Nat → hs → Int32 → Int32 → Int32
  | 0, _, _, _ => 0
  | fu + 1, s, v1, v2 => (if (fn10_isLetter (fn10_ch s (v1 + v2))) = 0 then v2 else (fn10_lettersFrom_c2 fu s v1 (v2 + (1 : Int32))))
def wp10_lettersFrom_c2 : Nat → hs → Int32 → Int32 → Prop
  | 0, _, _, _ => False
  | fu + 1, s, v1, v2 => ((wp10_ch s (v1 + v2)) ∧ ((wp10_isLetter (fn10_ch s (v1 + v2))) ∧ (((fn10_isLetter (fn10_ch s (v1 + v2))) = 0 → True) ∧ (¬ (fn10_isLetter (fn10_ch s (v1 + v2))) = 0 → (wp10_lettersFrom_c2 fu s v1 (v2 + (1 : Int32)))))))
set_option maxRecDepth 100000 in
set_option maxHeartbeats 4000000 in
theorem rc10_lettersFrom_2 : ∀ (fu : Nat) (s : hs) (v1 : Int32) (v2 : Int32) , wp10_lettersFrom_c2 fu s v1 v2 → am_lf (am_mk kb10_lettersFrom 0 0 22) [2] (2, [some (.inr (.inl 0)), some (.inl v1), some (.inl v2)], [], (hm_w s), 0, 0) = some (some (.inl (fn10_lettersFrom_c2 fu s v1 v2)), (hm_w s)) := by
  intro fu
  induction fu with
  | zero =>
    intro s v1 v2 hp
    exact hp.elim
  | succ fu ih =>
    intro s v1 v2 hp
    unfold wp10_lettersFrom_c2 at hp
    refine am_lf_eq ?_
    generalize am_lf (am_mk kb10_lettersFrom 0 0 22) [2] = kt at ih ⊢
    refine am_cx (pre := pr10_ch) (f := fm10_ch) (r := (some (.inl (fn10_ch s (v1 + v2))), (hm_w s), 0, 0)) ?_ ?_ ?_ ?_
    · exact ⟨s, (v1 + v2), rfl, rfl, hp.1⟩
    · exact fe10_ch s (v1 + v2)
    · exact rfl
    refine am_cy (pre := pr10_isLetter) (f := fm10_isLetter) (a' := [.inl (fn10_ch s (v1 + v2))]) (wc := []) (w' := (hm_w s)) (r := (some (.inl (fn10_isLetter (fn10_ch s (v1 + v2)))), [], 0, 0)) ?_ ?_ ?_ ?_ ?_ ?_ ?_ ?_ ?_ ?_
    · exact am_sow0 _
    · rfl
    · rfl
    · exact am_sub0 _
    · exact ⟨(fn10_ch s (v1 + v2)), rfl, rfl, hp.2.1⟩
    · exact fe10_isLetter (fn10_ch s (v1 + v2))
    · exact rfl
    · rfl
    · exact am_mix0 _
    refine am_if (c := (fn10_isLetter (fn10_ch s (v1 + v2))) = 0) (fun h2 => ?_) (fun h2 => ?_)
    · have e : fn10_lettersFrom_c2 (fu + 1) s v1 v2 = v2 := by
        rw [fn10_lettersFrom_c2]
        rw [if_pos h2]
      rw [e] <;> rfl
    · have q2 := hp.2.2.2 h2
      have e : fn10_lettersFrom_c2 (fu + 1) s v1 v2 = fn10_lettersFrom_c2 fu s v1 (v2 + (1 : Int32)) := by
        rw [fn10_lettersFrom_c2]
        rw [if_neg h2]
      rw [e]
      exact ih s v1 (v2 + (1 : Int32))  q2
noncomputable def fn10_lettersFrom (s : hs) (p0 : Int32) : Int32 := Classical.choose (⟨_, rfl⟩ : ∃ z : Int32, z = (fn10_lettersFrom_c2 hg_fu s p0 (0 : Int32)))
theorem fq10_lettersFrom (s : hs) (p0 : Int32) : fn10_lettersFrom s p0 = (fn10_lettersFrom_c2 hg_fu s p0 (0 : Int32)) := Classical.choose_spec (⟨_, rfl⟩ : ∃ z : Int32, z = (fn10_lettersFrom_c2 hg_fu s p0 (0 : Int32)))
def wp10_lettersFrom (s : hs) (p0 : Int32) : Prop := (wp10_lettersFrom_c2 hg_fu s p0 (0 : Int32))
set_option maxRecDepth 100000 in
set_option maxHeartbeats 4000000 in
theorem re10_lettersFrom (s : hs) (p0 : Int32) (hp : wp10_lettersFrom s p0) : am_lf (am_mk kb10_lettersFrom 0 0 22) [2] (0, am_L0 [.inr (.inl 0), .inl p0] 3, [], (hm_w s), 0, 0) = some (some (.inl (fn10_lettersFrom s p0)), (hm_w s)) := by
  unfold wp10_lettersFrom at hp
  have i2 := @rc10_lettersFrom_2
  refine am_lf_eq ?_
  generalize am_lf (am_mk kb10_lettersFrom 0 0 22) [2] = kt at i2 ⊢
  have e : fn10_lettersFrom s p0 = fn10_lettersFrom_c2 hg_fu s p0 (0 : Int32) := by
    rw [fq10_lettersFrom]
  rw [e]
  exact i2 hg_fu s p0 (0 : Int32)  hp
abbrev pr10_lettersFrom : List am_V → List am_C → Prop := fun a w => ∃ (s : hs) (p0 : Int32), a = [.inr (.inl 0), .inl p0] ∧ w = (hm_w s) ∧ wp10_lettersFrom s p0
noncomputable def fm10_lettersFrom : am_M := fun a w => (fun (z : Int32) => (some (.inl z), (hm_w (hm_st w 0)), 0, 0)) (fn10_lettersFrom (hm_st w 0) (am_i (am_an a 1)))
theorem fe10_lettersFrom (s : hs) (p0 : Int32) : fm10_lettersFrom [.inr (.inl 0), .inl p0] (hm_w s) = (some (.inl (fn10_lettersFrom s p0)), (hm_w s), 0, 0) := rfl
set_option maxRecDepth 100000 in
set_option maxHeartbeats 4000000 in
theorem rn10_lettersFrom : ∀ (a : List am_V) (w : List am_C), pr10_lettersFrom a w → ∃ nq, am_ev (am_mk kb10_lettersFrom (fm10_lettersFrom a w).2.2.1 (fm10_lettersFrom a w).2.2.2 w.length) [2] nq (0, am_L0 a 3, [], w, 0, 0) = some ((fm10_lettersFrom a w).1, (fm10_lettersFrom a w).2.1) := by
  rintro a w ⟨s, p0, rfl, rfl, hp⟩
  rw [fe10_lettersFrom s p0]
  exact am_lf_ev (re10_lettersFrom s p0 hp)
theorem rl10_lettersFrom : ∀ (a : List am_V) (w : List am_C), pr10_lettersFrom a w → a.length ≤ 3 := by
  rintro a w ⟨s, p0, rfl, rfl, hp⟩
  exact Nat.le_of_ble_eq_true rfl
theorem pa10_lettersFrom : ∀ a w, pr10_lettersFrom a w → ∃ q a' ci fs r, a = .inr (.inl q) :: a' ∧ w[q]? = some (.inr (ci, fs)) ∧ hn_cl[ci]? = some r ∧ r.1 = hn_R10 := by
  rintro a w ⟨s, p0, rfl, rfl, hp⟩
  exact ⟨0, _, 10, _, _, rfl, rfl, rfl, rfl⟩
set_option maxRecDepth 100000 in
set_option maxHeartbeats 4000000 in
theorem km10_lettersFrom {l : Launch} {E : (Nat → Prop) → State → Prop} {D : va_G} {ou : Nat → Nat} {ca : Nat → ClassId} (hE : am_EC E) : hg_Met l E D ou ca hy10_lettersFrom prog_12_method_16_code 3 (some .int) 1 pr10_lettersFrom fm10_lettersFrom := by
  refine am_met (B := kb10_lettersFrom) (cuts := [2]) (nt := 5) (by decide +kernel) rfl rfl (hg_tys_ok ca) ?_ (by decide) rl10_lettersFrom ?_ rn10_lettersFrom
  · exact fun t ht => List.mem_cons_of_mem _ (hg_arr t ht)
  · intro a w hp ad p e R s m args below meth c hR X hEs hnm
    have hR1 : 1 ≤ R.frames ∧ 40 ≤ R.locals := by rw [hR]; exact ⟨Nat.le_refl _, Nat.le_refl _⟩
    refine ⟨kd10_lettersFrom_ok, fun index ci fi mode hq => kf10_ok X.2.2.2.2.1 (index, ci, fi, mode) (am_as_mem hq), fun index ci fs hq => (am_no hq).elim, fun x v hq => (am_no hq).elim, ?_, fun o t n f hq => (am_no hq).elim, rfl, rfl, by rw [hR]; exact Nat.le_refl _, by rw [hR]; exact Nat.le_refl _⟩
    intro pc sel n0 pre0 f0 hq
    have hz : ∀ q ∈ ki10_lettersFrom, am_CK p l e R s m args below meth c D hn_cl (va_A (am_w ad ou ca w) s.heap.size) ou ca 3 q.1 q.2.2.1 q.2.2.2.1 q.2.2.2.2 := by
      refine am_allc (am_ck_V (n := 1) X hEs hE (km10_ch hE) (hg_good (gw_mem 1147 (by decide +kernel))) rfl (List.mem_cons_of_mem _ (gw_mem 76 (by decide +kernel))) (List.mem_cons_of_mem _ (gw_mem 1144 (by decide +kernel))) (List.mem_cons_of_mem _ (gw_mem 1146 (by decide +kernel))) (List.mem_cons_of_mem _ (gw_mem 21 (by decide +kernel))) pa10_ch (by decide +kernel) ⟨Nat.le_trans (by decide) hR1.1, Nat.le_trans (by decide) hR1.2⟩ (kd10_lettersFrom_ok (6, .invokevirtual 114, 3) (List.mem_of_getElem? (i := 6) rfl))) (am_allc (am_ck_S (n := 1) X hEs hE (km10_isLetter hE) (hg_good (gw_mem 1157 (by decide +kernel))) rfl (List.mem_cons_of_mem _ (gw_mem 76 (by decide +kernel))) (List.mem_cons_of_mem _ (gw_mem 1155 (by decide +kernel))) (List.mem_cons_of_mem _ (gw_mem 1156 (by decide +kernel))) (by decide +kernel) ⟨Nat.le_trans (by decide) hR1.1, Nat.le_trans (by decide) hR1.2⟩ (kd10_lettersFrom_ok (9, .invokestatic 111, 3) (List.mem_of_getElem? (i := 7) rfl))) (am_all0))
    exact hz _ (am_as_mem hq)
noncomputable def ki10_blanksFrom : List (Nat × Option (List Nat) × Nat × (List am_V → List am_C → Prop) × am_M) := [(6, none, 2, pr10_ch, fm10_ch), (9, some [], 1, pr10_isBlank, fm10_isBlank)]
noncomputable def kb10_blanksFrom : am_B := (kd10_blanksFrom, am_as kf10, hn_ty, fun _ => none, fun _ => none, am_as ki10_blanksFrom, fun _ => none, 5, 3, (some .int))
noncomputable def fn10_blanksFrom_c2 : Nat → hs → Int32 → Int32 → Int32
  | 0, _, _, _ => 0
  | fu + 1, s, v1, v2 => (if (fn10_isBlank (fn10_ch s (v1 + v2))) = 0 then v2 else (fn10_blanksFrom_c2 fu s v1 (v2 + (1 : Int32))))
def wp10_blanksFrom_c2 : Nat → hs → Int32 → Int32 → Prop
  | 0, _, _, _ => False
  | fu + 1, s, v1, v2 => ((wp10_ch s (v1 + v2)) ∧ ((wp10_isBlank (fn10_ch s (v1 + v2))) ∧ (((fn10_isBlank (fn10_ch s (v1 + v2))) = 0 → True) ∧ (¬ (fn10_isBlank (fn10_ch s (v1 + v2))) = 0 → (wp10_blanksFrom_c2 fu s v1 (v2 + (1 : Int32)))))))
set_option maxRecDepth 100000 in
set_option maxHeartbeats 4000000 in
theorem rc10_blanksFrom_2 : ∀ (fu : Nat) (s : hs) (v1 : Int32) (v2 : Int32) , wp10_blanksFrom_c2 fu s v1 v2 → am_lf (am_mk kb10_blanksFrom 0 0 22) [2] (2, [some (.inr (.inl 0)), some (.inl v1), some (.inl v2)], [], (hm_w s), 0, 0) = some (some (.inl (fn10_blanksFrom_c2 fu s v1 v2)), (hm_w s)) := by
  intro fu
  induction fu with
  | zero =>
    intro s v1 v2 hp
    exact hp.elim
  | succ fu ih =>
    intro s v1 v2 hp
    unfold wp10_blanksFrom_c2 at hp
    refine am_lf_eq ?_
    generalize am_lf (am_mk kb10_blanksFrom 0 0 22) [2] = kt at ih ⊢
    refine am_cx (pre := pr10_ch) (f := fm10_ch) (r := (some (.inl (fn10_ch s (v1 + v2))), (hm_w s), 0, 0)) ?_ ?_ ?_ ?_
    · exact ⟨s, (v1 + v2), rfl, rfl, hp.1⟩
    · exact fe10_ch s (v1 + v2)
    · exact rfl
    refine am_cy (pre := pr10_isBlank) (f := fm10_isBlank) (a' := [.inl (fn10_ch s (v1 + v2))]) (wc := []) (w' := (hm_w s)) (r := (some (.inl (fn10_isBlank (fn10_ch s (v1 + v2)))), [], 0, 0)) ?_ ?_ ?_ ?_ ?_ ?_ ?_ ?_ ?_ ?_
    · exact am_sow0 _
    · rfl
    · rfl
    · exact am_sub0 _
    · exact ⟨(fn10_ch s (v1 + v2)), rfl, rfl, hp.2.1⟩
    · exact fe10_isBlank (fn10_ch s (v1 + v2))
    · exact rfl
    · rfl
    · exact am_mix0 _
    refine am_if (c := (fn10_isBlank (fn10_ch s (v1 + v2))) = 0) (fun h2 => ?_) (fun h2 => ?_)
    · have e : fn10_blanksFrom_c2 (fu + 1) s v1 v2 = v2 := by
        rw [fn10_blanksFrom_c2]
        rw [if_pos h2]
      rw [e] <;> rfl
    · have q2 := hp.2.2.2 h2
      have e : fn10_blanksFrom_c2 (fu + 1) s v1 v2 = fn10_blanksFrom_c2 fu s v1 (v2 + (1 : Int32)) := by
        rw [fn10_blanksFrom_c2]
        rw [if_neg h2]
      rw [e]
      exact ih s v1 (v2 + (1 : Int32))  q2
noncomputable def fn10_blanksFrom (s : hs) (p0 : Int32) : Int32 := Classical.choose (⟨_, rfl⟩ : ∃ z : Int32, z = (fn10_blanksFrom_c2 hg_fu s p0 (0 : Int32)))
theorem fq10_blanksFrom (s : hs) (p0 : Int32) : fn10_blanksFrom s p0 = (fn10_blanksFrom_c2 hg_fu s p0 (0 : Int32)) := Classical.choose_spec (⟨_, rfl⟩ : ∃ z : Int32, z = (fn10_blanksFrom_c2 hg_fu s p0 (0 : Int32)))
def wp10_blanksFrom (s : hs) (p0 : Int32) : Prop := (wp10_blanksFrom_c2 hg_fu s p0 (0 : Int32))
set_option maxRecDepth 100000 in
set_option maxHeartbeats 4000000 in
theorem re10_blanksFrom (s : hs) (p0 : Int32) (hp : wp10_blanksFrom s p0) : am_lf (am_mk kb10_blanksFrom 0 0 22) [2] (0, am_L0 [.inr (.inl 0), .inl p0] 3, [], (hm_w s), 0, 0) = some (some (.inl (fn10_blanksFrom s p0)), (hm_w s)) := by
  unfold wp10_blanksFrom at hp
  have i2 := @rc10_blanksFrom_2
  refine am_lf_eq ?_
  generalize am_lf (am_mk kb10_blanksFrom 0 0 22) [2] = kt at i2 ⊢
  have e : fn10_blanksFrom s p0 = fn10_blanksFrom_c2 hg_fu s p0 (0 : Int32) := by
    rw [fq10_blanksFrom]
  rw [e]
  exact i2 hg_fu s p0 (0 : Int32)  hp
abbrev pr10_blanksFrom : List am_V → List am_C → Prop := fun a w => ∃ (s : hs) (p0 : Int32), a = [.inr (.inl 0), .inl p0] ∧ w = (hm_w s) ∧ wp10_blanksFrom s p0
noncomputable def fm10_blanksFrom : am_M := fun a w => (fun (z : Int32) => (some (.inl z), (hm_w (hm_st w 0)), 0, 0)) (fn10_blanksFrom (hm_st w 0) (am_i (am_an a 1)))
theorem fe10_blanksFrom (s : hs) (p0 : Int32) : fm10_blanksFrom [.inr (.inl 0), .inl p0] (hm_w s) = (some (.inl (fn10_blanksFrom s p0)), (hm_w s), 0, 0) := rfl
set_option maxRecDepth 100000 in
set_option maxHeartbeats 4000000 in
theorem rn10_blanksFrom : ∀ (a : List am_V) (w : List am_C), pr10_blanksFrom a w → ∃ nq, am_ev (am_mk kb10_blanksFrom (fm10_blanksFrom a w).2.2.1 (fm10_blanksFrom a w).2.2.2 w.length) [2] nq (0, am_L0 a 3, [], w, 0, 0) = some ((fm10_blanksFrom a w).1, (fm10_blanksFrom a w).2.1) := by
  rintro a w ⟨s, p0, rfl, rfl, hp⟩
  rw [fe10_blanksFrom s p0]
  exact am_lf_ev (re10_blanksFrom s p0 hp)
theorem rl10_blanksFrom : ∀ (a : List am_V) (w : List am_C), pr10_blanksFrom a w → a.length ≤ 3 := by
  rintro a w ⟨s, p0, rfl, rfl, hp⟩
  exact Nat.le_of_ble_eq_true rfl
theorem pa10_blanksFrom : ∀ a w, pr10_blanksFrom a w → ∃ q a' ci fs r, a = .inr (.inl q) :: a' ∧ w[q]? = some (.inr (ci, fs)) ∧ hn_cl[ci]? = some r ∧ r.1 = hn_R10 := by
  rintro a w ⟨s, p0, rfl, rfl, hp⟩
  exact ⟨0, _, 10, _, _, rfl, rfl, rfl, rfl⟩
set_option maxRecDepth 100000 in
set_option maxHeartbeats 4000000 in
theorem km10_blanksFrom {l : Launch} {E : (Nat → Prop) → State → Prop} {D : va_G} {ou : Nat → Nat} {ca : Nat → ClassId} (hE : am_EC E) : hg_Met l E D ou ca hy10_blanksFrom prog_12_method_17_code 3 (some .int) 1 pr10_blanksFrom fm10_blanksFrom := by
  refine am_met (B := kb10_blanksFrom) (cuts := [2]) (nt := 5) (by decide +kernel) rfl rfl (hg_tys_ok ca) ?_ (by decide) rl10_blanksFrom ?_ rn10_blanksFrom
  · exact fun t ht => List.mem_cons_of_mem _ (hg_arr t ht)
  · intro a w hp ad p e R s m args below meth c hR X hEs hnm
    have hR1 : 1 ≤ R.frames ∧ 40 ≤ R.locals := by rw [hR]; exact ⟨Nat.le_refl _, Nat.le_refl _⟩
    refine ⟨kd10_blanksFrom_ok, fun index ci fi mode hq => kf10_ok X.2.2.2.2.1 (index, ci, fi, mode) (am_as_mem hq), fun index ci fs hq => (am_no hq).elim, fun x v hq => (am_no hq).elim, ?_, fun o t n f hq => (am_no hq).elim, rfl, rfl, by rw [hR]; exact Nat.le_refl _, by rw [hR]; exact Nat.le_refl _⟩
    intro pc sel n0 pre0 f0 hq
    have hz : ∀ q ∈ ki10_blanksFrom, am_CK p l e R s m args below meth c D hn_cl (va_A (am_w ad ou ca w) s.heap.size) ou ca 3 q.1 q.2.2.1 q.2.2.2.1 q.2.2.2.2 := by
      refine am_allc (am_ck_V (n := 1) X hEs hE (km10_ch hE) (hg_good (gw_mem 1147 (by decide +kernel))) rfl (List.mem_cons_of_mem _ (gw_mem 76 (by decide +kernel))) (List.mem_cons_of_mem _ (gw_mem 1144 (by decide +kernel))) (List.mem_cons_of_mem _ (gw_mem 1146 (by decide +kernel))) (List.mem_cons_of_mem _ (gw_mem 21 (by decide +kernel))) pa10_ch (by decide +kernel) ⟨Nat.le_trans (by decide) hR1.1, Nat.le_trans (by decide) hR1.2⟩ (kd10_blanksFrom_ok (6, .invokevirtual 114, 3) (List.mem_of_getElem? (i := 6) rfl))) (am_allc (am_ck_S (n := 1) X hEs hE (km10_isBlank hE) (hg_good (gw_mem 1168 (by decide +kernel))) rfl (List.mem_cons_of_mem _ (gw_mem 76 (by decide +kernel))) (List.mem_cons_of_mem _ (gw_mem 1166 (by decide +kernel))) (List.mem_cons_of_mem _ (gw_mem 1167 (by decide +kernel))) (by decide +kernel) ⟨Nat.le_trans (by decide) hR1.1, Nat.le_trans (by decide) hR1.2⟩ (kd10_blanksFrom_ok (9, .invokestatic 117, 3) (List.mem_of_getElem? (i := 7) rfl))) (am_all0))
    exact hz _ (am_as_mem hq)
