noncomputable def ki10_spells : List (Nat × Option (List Nat) × Nat × (List am_V → List am_C → Prop) × am_M) := [(7, none, 2, pr10_ch, fm10_ch), (19, none, 2, pr10_ch, fm10_ch), (31, none, 2, pr10_ch, fm10_ch), (60, none, 2, pr10_ch, fm10_ch), (77, none, 2, pr10_ch, fm10_ch), (107, none, 2, pr10_ch, fm10_ch)]
noncomputable def kb10_spells : am_B := (kd10_spells, am_as kf10, hn_ty, fun _ => none, fun _ => none, am_as ki10_spells, fun _ => none, 5, 11, (some .boolean))
noncomputable def fn10_spells_c115 (s : hs) : Int32 := (1 : Int32)
def wp10_spells_c115 (s : hs) : Prop := True
set_option maxRecDepth 100000 in
set_option maxHeartbeats 4000000 in
theorem rc10_spells_115 (s : hs) (j1 : Option am_V) (j2 : Option am_V) (j3 : Option am_V) (j4 : Option am_V) (j5 : Option am_V) (j6 : Option am_V) (j7 : Option am_V) (j8 : Option am_V) (j9 : Option am_V) (j10 : Option am_V) (g1 : am_loO 22 j1 = true) (g2 : am_loO 22 j2 = true) (g3 : am_loO 22 j3 = true) (g4 : am_loO 22 j4 = true) (g5 : am_loO 22 j5 = true) (g6 : am_loO 22 j6 = true) (g7 : am_loO 22 j7 = true) (g8 : am_loO 22 j8 = true) (g9 : am_loO 22 j9 = true) (g10 : am_loO 22 j10 = true) (hp : wp10_spells_c115 s) : am_lf (am_mk kb10_spells 0 0 22) [43, 44, 68, 85, 89, 90, 115] (115, [some (.inr (.inl 0)), j1, j2, j3, j4, j5, j6, j7, j8, j9, j10], [], (hm_w s), 0, 0) = some (some (.inl (fn10_spells_c115 s)), (hm_w s)) := by
  unfold wp10_spells_c115 at hp
  refine am_lf_eq ?_
  generalize am_lf (am_mk kb10_spells 0 0 22) [43, 44, 68, 85, 89, 90, 115] = kt
  have e : fn10_spells_c115 s = (1 : Int32) := by
    rw [fn10_spells_c115]
  rw [e] <;> rfl
noncomputable def fn10_spells_c90 (s : hs) (v1 : Int32) (v3 : Int32) (v9 : Int32) (u0 : Int32) : Int32 := (if u0 = 0 then (0 : Int32) else (if v3 < (6 : Int32) then (fn10_spells_c115 s) else (if (fn10_ch s (v1 + (5 : Int32))) = v9 then (fn10_spells_c115 s) else (0 : Int32))))
def wp10_spells_c90 (s : hs) (v1 : Int32) (v3 : Int32) (v9 : Int32) (u0 : Int32) : Prop := ((u0 = 0 → True) ∧ (¬ u0 = 0 → ((v3 < (6 : Int32) → (wp10_spells_c115 s)) ∧ (¬ v3 < (6 : Int32) → ((wp10_ch s (v1 + (5 : Int32))) ∧ (((fn10_ch s (v1 + (5 : Int32))) = v9 → (wp10_spells_c115 s)) ∧ (¬ (fn10_ch s (v1 + (5 : Int32))) = v9 → True)))))))
set_option maxRecDepth 100000 in
set_option maxHeartbeats 4000000 in
theorem rc10_spells_90 (s : hs) (v1 : Int32) (v3 : Int32) (v9 : Int32) (u0 : Int32) (j2 : Option am_V) (j4 : Option am_V) (j5 : Option am_V) (j6 : Option am_V) (j7 : Option am_V) (j8 : Option am_V) (j10 : Option am_V) (g2 : am_loO 22 j2 = true) (g4 : am_loO 22 j4 = true) (g5 : am_loO 22 j5 = true) (g6 : am_loO 22 j6 = true) (g7 : am_loO 22 j7 = true) (g8 : am_loO 22 j8 = true) (g10 : am_loO 22 j10 = true) (hp : wp10_spells_c90 s v1 v3 v9 u0) : am_lf (am_mk kb10_spells 0 0 22) [43, 44, 68, 85, 89, 90, 115] (90, [some (.inr (.inl 0)), some (.inl v1), j2, some (.inl v3), j4, j5, j6, j7, j8, some (.inl v9), j10], [.inl u0], (hm_w s), 0, 0) = some (some (.inl (fn10_spells_c90 s v1 v3 v9 u0)), (hm_w s)) := by
  unfold wp10_spells_c90 at hp
  have i115 := @rc10_spells_115
  refine am_lf_eq ?_
  generalize am_lf (am_mk kb10_spells 0 0 22) [43, 44, 68, 85, 89, 90, 115] = kt at i115 ⊢
  refine am_if (c := u0 = 0) (fun h1 => ?_) (fun h1 => ?_)
  · have e : fn10_spells_c90 s v1 v3 v9 u0 = (0 : Int32) := by
      rw [fn10_spells_c90]
      rw [if_pos h1]
    rw [e] <;> rfl
  · have q1 := hp.2 h1
    refine am_if (c := v3 < (6 : Int32)) (fun h2 => ?_) (fun h2 => ?_)
    · have q2 := q1.1 h2
      have e : fn10_spells_c90 s v1 v3 v9 u0 = fn10_spells_c115 s := by
        rw [fn10_spells_c90]
        rw [if_neg h1, if_pos h2]
      rw [e]
      exact i115 s _ _ _ _ _ _ _ _ _ _ rfl g2 rfl g4 g5 g6 g7 g8 rfl rfl q2
    · have q2 := q1.2 h2
      refine am_cx (pre := pr10_ch) (f := fm10_ch) (r := (some (.inl (fn10_ch s (v1 + (5 : Int32)))), (hm_w s), 0, 0)) ?_ ?_ ?_ ?_
      · exact ⟨s, (v1 + (5 : Int32)), rfl, rfl, q2.1⟩
      · exact fe10_ch s (v1 + (5 : Int32))
      · exact (am_ac rfl (am_ac rfl (am_ac g2 (am_ac rfl (am_ac g4 (am_ac g5 (am_ac g6 (am_ac g7 (am_ac g8 (am_ac rfl (am_ac rfl am_a0)))))))))))
      refine am_if (c := (fn10_ch s (v1 + (5 : Int32))) = v9) (fun h3 => ?_) (fun h3 => ?_)
      · have q3 := q2.2.1 h3
        have e : fn10_spells_c90 s v1 v3 v9 u0 = fn10_spells_c115 s := by
          rw [fn10_spells_c90]
          rw [if_neg h1, if_neg h2, if_pos h3]
        rw [e]
        exact i115 s _ _ _ _ _ _ _ _ _ _ rfl g2 rfl g4 g5 g6 g7 g8 rfl rfl q3
      · have e : fn10_spells_c90 s v1 v3 v9 u0 = (0 : Int32) := by
          rw [fn10_spells_c90]
          rw [if_neg h1, if_neg h2, if_neg h3]
        rw [e] <;> rfl
noncomputable def fn10_spells_c85 (s : hs) (v1 : Int32) (v3 : Int32) (v9 : Int32) : Int32 := (fn10_spells_c90 s v1 v3 v9 (1 : Int32))
def wp10_spells_c85 (s : hs) (v1 : Int32) (v3 : Int32) (v9 : Int32) : Prop := (wp10_spells_c90 s v1 v3 v9 (1 : Int32))
set_option maxRecDepth 100000 in
set_option maxHeartbeats 4000000 in
theorem rc10_spells_85 (s : hs) (v1 : Int32) (v3 : Int32) (v9 : Int32) (j2 : Option am_V) (j4 : Option am_V) (j5 : Option am_V) (j6 : Option am_V) (j7 : Option am_V) (j8 : Option am_V) (j10 : Option am_V) (g2 : am_loO 22 j2 = true) (g4 : am_loO 22 j4 = true) (g5 : am_loO 22 j5 = true) (g6 : am_loO 22 j6 = true) (g7 : am_loO 22 j7 = true) (g8 : am_loO 22 j8 = true) (g10 : am_loO 22 j10 = true) (hp : wp10_spells_c85 s v1 v3 v9) : am_lf (am_mk kb10_spells 0 0 22) [43, 44, 68, 85, 89, 90, 115] (85, [some (.inr (.inl 0)), some (.inl v1), j2, some (.inl v3), j4, j5, j6, j7, j8, some (.inl v9), j10], [], (hm_w s), 0, 0) = some (some (.inl (fn10_spells_c85 s v1 v3 v9)), (hm_w s)) := by
  unfold wp10_spells_c85 at hp
  have i90 := @rc10_spells_90
  refine am_lf_eq ?_
  generalize am_lf (am_mk kb10_spells 0 0 22) [43, 44, 68, 85, 89, 90, 115] = kt at i90 ⊢
  have e : fn10_spells_c85 s v1 v3 v9 = fn10_spells_c90 s v1 v3 v9 (1 : Int32) := by
    rw [fn10_spells_c85]
  rw [e]
  exact i90 s v1 v3 v9 (1 : Int32) _ _ _ _ _ _ _ g2 g4 g5 g6 g7 g8 g10 hp
noncomputable def fn10_spells_c89 (s : hs) (v1 : Int32) (v3 : Int32) (v9 : Int32) : Int32 := (fn10_spells_c90 s v1 v3 v9 (0 : Int32))
def wp10_spells_c89 (s : hs) (v1 : Int32) (v3 : Int32) (v9 : Int32) : Prop := (wp10_spells_c90 s v1 v3 v9 (0 : Int32))
set_option maxRecDepth 100000 in
set_option maxHeartbeats 4000000 in
theorem rc10_spells_89 (s : hs) (v1 : Int32) (v3 : Int32) (v9 : Int32) (j2 : Option am_V) (j4 : Option am_V) (j5 : Option am_V) (j6 : Option am_V) (j7 : Option am_V) (j8 : Option am_V) (j10 : Option am_V) (g2 : am_loO 22 j2 = true) (g4 : am_loO 22 j4 = true) (g5 : am_loO 22 j5 = true) (g6 : am_loO 22 j6 = true) (g7 : am_loO 22 j7 = true) (g8 : am_loO 22 j8 = true) (g10 : am_loO 22 j10 = true) (hp : wp10_spells_c89 s v1 v3 v9) : am_lf (am_mk kb10_spells 0 0 22) [43, 44, 68, 85, 89, 90, 115] (89, [some (.inr (.inl 0)), some (.inl v1), j2, some (.inl v3), j4, j5, j6, j7, j8, some (.inl v9), j10], [], (hm_w s), 0, 0) = some (some (.inl (fn10_spells_c89 s v1 v3 v9)), (hm_w s)) := by
  unfold wp10_spells_c89 at hp
  have i90 := @rc10_spells_90
  refine am_lf_eq ?_
  generalize am_lf (am_mk kb10_spells 0 0 22) [43, 44, 68, 85, 89, 90, 115] = kt at i90 ⊢
  have e : fn10_spells_c89 s v1 v3 v9 = fn10_spells_c90 s v1 v3 v9 (0 : Int32) := by
    rw [fn10_spells_c89]
  rw [e]
  exact i90 s v1 v3 v9 (0 : Int32) _ _ _ _ _ _ _ g2 g4 g5 g6 g7 g8 g10 hp
noncomputable def fn10_spells_c68 (s : hs) (v1 : Int32) (v3 : Int32) (v8 : Int32) (v9 : Int32) : Int32 := (if v3 < (5 : Int32) then (fn10_spells_c85 s v1 v3 v9) else (if (fn10_ch s (v1 + (4 : Int32))) = v8 then (fn10_spells_c85 s v1 v3 v9) else (fn10_spells_c89 s v1 v3 v9)))
def wp10_spells_c68 (s : hs) (v1 : Int32) (v3 : Int32) (v8 : Int32) (v9 : Int32) : Prop := ((v3 < (5 : Int32) → (wp10_spells_c85 s v1 v3 v9)) ∧ (¬ v3 < (5 : Int32) → ((wp10_ch s (v1 + (4 : Int32))) ∧ (((fn10_ch s (v1 + (4 : Int32))) = v8 → (wp10_spells_c85 s v1 v3 v9)) ∧ (¬ (fn10_ch s (v1 + (4 : Int32))) = v8 → (wp10_spells_c89 s v1 v3 v9))))))
set_option maxRecDepth 100000 in
set_option maxHeartbeats 4000000 in
theorem rc10_spells_68 (s : hs) (v1 : Int32) (v3 : Int32) (v8 : Int32) (v9 : Int32) (j2 : Option am_V) (j4 : Option am_V) (j5 : Option am_V) (j6 : Option am_V) (j7 : Option am_V) (j10 : Option am_V) (g2 : am_loO 22 j2 = true) (g4 : am_loO 22 j4 = true) (g5 : am_loO 22 j5 = true) (g6 : am_loO 22 j6 = true) (g7 : am_loO 22 j7 = true) (g10 : am_loO 22 j10 = true) (hp : wp10_spells_c68 s v1 v3 v8 v9) : am_lf (am_mk kb10_spells 0 0 22) [43, 44, 68, 85, 89, 90, 115] (68, [some (.inr (.inl 0)), some (.inl v1), j2, some (.inl v3), j4, j5, j6, j7, some (.inl v8), some (.inl v9), j10], [], (hm_w s), 0, 0) = some (some (.inl (fn10_spells_c68 s v1 v3 v8 v9)), (hm_w s)) := by
  unfold wp10_spells_c68 at hp
  have i85 := @rc10_spells_85
  have i89 := @rc10_spells_89
  refine am_lf_eq ?_
  generalize am_lf (am_mk kb10_spells 0 0 22) [43, 44, 68, 85, 89, 90, 115] = kt at i85 i89 ⊢
  refine am_if (c := v3 < (5 : Int32)) (fun h1 => ?_) (fun h1 => ?_)
  · have q1 := hp.1 h1
    have e : fn10_spells_c68 s v1 v3 v8 v9 = fn10_spells_c85 s v1 v3 v9 := by
      rw [fn10_spells_c68]
      rw [if_pos h1]
    rw [e]
    exact i85 s v1 v3 v9 _ _ _ _ _ _ _ g2 g4 g5 g6 g7 rfl g10 q1
  · have q1 := hp.2 h1
    refine am_cx (pre := pr10_ch) (f := fm10_ch) (r := (some (.inl (fn10_ch s (v1 + (4 : Int32)))), (hm_w s), 0, 0)) ?_ ?_ ?_ ?_
    · exact ⟨s, (v1 + (4 : Int32)), rfl, rfl, q1.1⟩
    · exact fe10_ch s (v1 + (4 : Int32))
    · exact (am_ac rfl (am_ac rfl (am_ac g2 (am_ac rfl (am_ac g4 (am_ac g5 (am_ac g6 (am_ac g7 (am_ac rfl (am_ac rfl (am_ac g10 am_a0)))))))))))
    refine am_if (c := (fn10_ch s (v1 + (4 : Int32))) = v8) (fun h2 => ?_) (fun h2 => ?_)
    · have q2 := q1.2.1 h2
      have e : fn10_spells_c68 s v1 v3 v8 v9 = fn10_spells_c85 s v1 v3 v9 := by
        rw [fn10_spells_c68]
        rw [if_neg h1, if_pos h2]
      rw [e]
      exact i85 s v1 v3 v9 _ _ _ _ _ _ _ g2 g4 g5 g6 g7 rfl g10 q2
    · have q2 := q1.2.2 h2
      have e : fn10_spells_c68 s v1 v3 v8 v9 = fn10_spells_c89 s v1 v3 v9 := by
        rw [fn10_spells_c68]
        rw [if_neg h1, if_neg h2]
      rw [e]
      exact i89 s v1 v3 v9 _ _ _ _ _ _ _ g2 g4 g5 g6 g7 rfl g10 q2
noncomputable def fn10_spells_c44 (s : hs) (v1 : Int32) (v3 : Int32) (v7 : Int32) (v8 : Int32) (v9 : Int32) (u0 : Int32) : Int32 := (if u0 = 0 then (fn10_spells_c89 s v1 v3 v9) else (if v3 < (4 : Int32) then (fn10_spells_c68 s v1 v3 v8 v9) else (if (fn10_ch s (v1 + (3 : Int32))) = v7 then (fn10_spells_c68 s v1 v3 v8 v9) else (fn10_spells_c89 s v1 v3 v9))))
def wp10_spells_c44 (s : hs) (v1 : Int32) (v3 : Int32) (v7 : Int32) (v8 : Int32) (v9 : Int32) (u0 : Int32) : Prop := ((u0 = 0 → (wp10_spells_c89 s v1 v3 v9)) ∧ (¬ u0 = 0 → ((v3 < (4 : Int32) → (wp10_spells_c68 s v1 v3 v8 v9)) ∧ (¬ v3 < (4 : Int32) → ((wp10_ch s (v1 + (3 : Int32))) ∧ (((fn10_ch s (v1 + (3 : Int32))) = v7 → (wp10_spells_c68 s v1 v3 v8 v9)) ∧ (¬ (fn10_ch s (v1 + (3 : Int32))) = v7 → (wp10_spells_c89 s v1 v3 v9))))))))
set_option maxRecDepth 100000 in
set_option maxHeartbeats 4000000 in
theorem rc10_spells_44 (s : hs) (v1 : Int32) (v3 : Int32) (v7 : Int32) (v8 : Int32) (v9 : Int32) (u0 : Int32) (j2 : Option am_V) (j4 : Option am_V) (j5 : Option am_V) (j6 : Option am_V) (j10 : Option am_V) (g2 : am_loO 22 j2 = true) (g4 : am_loO 22 j4 = true) (g5 : am_loO 22 j5 = true) (g6 : am_loO 22 j6 = true) (g10 : am_loO 22 j10 = true) (hp : wp10_spells_c44 s v1 v3 v7 v8 v9 u0) : am_lf (am_mk kb10_spells 0 0 22) [43, 44, 68, 85, 89, 90, 115] (44, [some (.inr (.inl 0)), some (.inl v1), j2, some (.inl v3), j4, j5, j6, some (.inl v7), some (.inl v8), some (.inl v9), j10], [.inl u0], (hm_w s), 0, 0) = some (some (.inl (fn10_spells_c44 s v1 v3 v7 v8 v9 u0)), (hm_w s)) := by
  unfold wp10_spells_c44 at hp
  have i68 := @rc10_spells_68
  have i89 := @rc10_spells_89
  refine am_lf_eq ?_
  generalize am_lf (am_mk kb10_spells 0 0 22) [43, 44, 68, 85, 89, 90, 115] = kt at i68 i89 ⊢
  refine am_if (c := u0 = 0) (fun h1 => ?_) (fun h1 => ?_)
  · have q1 := hp.1 h1
    have e : fn10_spells_c44 s v1 v3 v7 v8 v9 u0 = fn10_spells_c89 s v1 v3 v9 := by
      rw [fn10_spells_c44]
      rw [if_pos h1]
    rw [e]
    exact i89 s v1 v3 v9 _ _ _ _ _ _ _ g2 g4 g5 g6 rfl rfl rfl q1
  · have q1 := hp.2 h1
    refine am_if (c := v3 < (4 : Int32)) (fun h2 => ?_) (fun h2 => ?_)
    · have q2 := q1.1 h2
      have e : fn10_spells_c44 s v1 v3 v7 v8 v9 u0 = fn10_spells_c68 s v1 v3 v8 v9 := by
        rw [fn10_spells_c44]
        rw [if_neg h1, if_pos h2]
      rw [e]
      exact i68 s v1 v3 v8 v9 _ _ _ _ _ _ g2 g4 g5 g6 rfl rfl q2
    · have q2 := q1.2 h2
      refine am_cx (pre := pr10_ch) (f := fm10_ch) (r := (some (.inl (fn10_ch s (v1 + (3 : Int32)))), (hm_w s), 0, 0)) ?_ ?_ ?_ ?_
      · exact ⟨s, (v1 + (3 : Int32)), rfl, rfl, q2.1⟩
      · exact fe10_ch s (v1 + (3 : Int32))
      · exact (am_ac rfl (am_ac rfl (am_ac g2 (am_ac rfl (am_ac g4 (am_ac g5 (am_ac g6 (am_ac rfl (am_ac rfl (am_ac rfl (am_ac rfl am_a0)))))))))))
      refine am_if (c := (fn10_ch s (v1 + (3 : Int32))) = v7) (fun h3 => ?_) (fun h3 => ?_)
      · have q3 := q2.2.1 h3
        have e : fn10_spells_c44 s v1 v3 v7 v8 v9 u0 = fn10_spells_c68 s v1 v3 v8 v9 := by
          rw [fn10_spells_c44]
          rw [if_neg h1, if_neg h2, if_pos h3]
        rw [e]
        exact i68 s v1 v3 v8 v9 _ _ _ _ _ _ g2 g4 g5 g6 rfl rfl q3
      · have q3 := q2.2.2 h3
        have e : fn10_spells_c44 s v1 v3 v7 v8 v9 u0 = fn10_spells_c89 s v1 v3 v9 := by
          rw [fn10_spells_c44]
          rw [if_neg h1, if_neg h2, if_neg h3]
        rw [e]
        exact i89 s v1 v3 v9 _ _ _ _ _ _ _ g2 g4 g5 g6 rfl rfl rfl q3
noncomputable def fn10_spells_c43 (s : hs) (v1 : Int32) (v3 : Int32) (v7 : Int32) (v8 : Int32) (v9 : Int32) : Int32 := (fn10_spells_c44 s v1 v3 v7 v8 v9 (0 : Int32))
def wp10_spells_c43 (s : hs) (v1 : Int32) (v3 : Int32) (v7 : Int32) (v8 : Int32) (v9 : Int32) : Prop := (wp10_spells_c44 s v1 v3 v7 v8 v9 (0 : Int32))
set_option maxRecDepth 100000 in
set_option maxHeartbeats 4000000 in
theorem rc10_spells_43 (s : hs) (v1 : Int32) (v3 : Int32) (v7 : Int32) (v8 : Int32) (v9 : Int32) (j2 : Option am_V) (j4 : Option am_V) (j5 : Option am_V) (j6 : Option am_V) (j10 : Option am_V) (g2 : am_loO 22 j2 = true) (g4 : am_loO 22 j4 = true) (g5 : am_loO 22 j5 = true) (g6 : am_loO 22 j6 = true) (g10 : am_loO 22 j10 = true) (hp : wp10_spells_c43 s v1 v3 v7 v8 v9) : am_lf (am_mk kb10_spells 0 0 22) [43, 44, 68, 85, 89, 90, 115] (43, [some (.inr (.inl 0)), some (.inl v1), j2, some (.inl v3), j4, j5, j6, some (.inl v7), some (.inl v8), some (.inl v9), j10], [], (hm_w s), 0, 0) = some (some (.inl (fn10_spells_c43 s v1 v3 v7 v8 v9)), (hm_w s)) := by
  unfold wp10_spells_c43 at hp
  have i44 := @rc10_spells_44
  refine am_lf_eq ?_
  generalize am_lf (am_mk kb10_spells 0 0 22) [43, 44, 68, 85, 89, 90, 115] = kt at i44 ⊢
  have e : fn10_spells_c43 s v1 v3 v7 v8 v9 = fn10_spells_c44 s v1 v3 v7 v8 v9 (0 : Int32) := by
    rw [fn10_spells_c43]
  rw [e]
  exact i44 s v1 v3 v7 v8 v9 (0 : Int32) _ _ _ _ _ g2 g4 g5 g6 g10 hp
noncomputable def fn10_spells (s : hs) (p0 : Int32) (p1 : Int32) (p2 : Int32) (p3 : Int32) (p4 : Int32) (p5 : Int32) (p6 : Int32) (p7 : Int32) (p8 : Int32) : Int32 := Classical.choose (⟨_, rfl⟩ : ∃ z : Int32, z = (if p1 = p2 then (if (fn10_ch s p0) = p3 then (if (fn10_ch s (p0 + (1 : Int32))) = p4 then (if (fn10_ch s (p0 + (2 : Int32))) = p5 then (fn10_spells_c44 s p0 p2 p6 p7 p8 (1 : Int32)) else (fn10_spells_c43 s p0 p2 p6 p7 p8)) else (fn10_spells_c43 s p0 p2 p6 p7 p8)) else (fn10_spells_c43 s p0 p2 p6 p7 p8)) else (fn10_spells_c43 s p0 p2 p6 p7 p8)))
theorem fq10_spells (s : hs) (p0 : Int32) (p1 : Int32) (p2 : Int32) (p3 : Int32) (p4 : Int32) (p5 : Int32) (p6 : Int32) (p7 : Int32) (p8 : Int32) : fn10_spells s p0 p1 p2 p3 p4 p5 p6 p7 p8 = (if p1 = p2 then (if (fn10_ch s p0) = p3 then (if (fn10_ch s (p0 + (1 : Int32))) = p4 then (if (fn10_ch s (p0 + (2 : Int32))) = p5 then (fn10_spells_c44 s p0 p2 p6 p7 p8 (1 : Int32)) else (fn10_spells_c43 s p0 p2 p6 p7 p8)) else (fn10_spells_c43 s p0 p2 p6 p7 p8)) else (fn10_spells_c43 s p0 p2 p6 p7 p8)) else (fn10_spells_c43 s p0 p2 p6 p7 p8)) := Classical.choose_spec (⟨_, rfl⟩ : ∃ z : Int32, z = (if p1 = p2 then (if (fn10_ch s p0) = p3 then (if (fn10_ch s (p0 + (1 : Int32))) = p4 then (if (fn10_ch s (p0 + (2 : Int32))) = p5 then (fn10_spells_c44 s p0 p2 p6 p7 p8 (1 : Int32)) else (fn10_spells_c43 s p0 p2 p6 p7 p8)) else (fn10_spells_c43 s p0 p2 p6 p7 p8)) else (fn10_spells_c43 s p0 p2 p6 p7 p8)) else (fn10_spells_c43 s p0 p2 p6 p7 p8)))
def wp10_spells (s : hs) (p0 : Int32) (p1 : Int32) (p2 : Int32) (p3 : Int32) (p4 : Int32) (p5 : Int32) (p6 : Int32) (p7 : Int32) (p8 : Int32) : Prop := ((p1 = p2 → ((wp10_ch s p0) ∧ (((fn10_ch s p0) = p3 → ((wp10_ch s (p0 + (1 : Int32))) ∧ (((fn10_ch s (p0 + (1 : Int32))) = p4 → ((wp10_ch s (p0 + (2 : Int32))) ∧ (((fn10_ch s (p0 + (2 : Int32))) = p5 → (wp10_spells_c44 s p0 p2 p6 p7 p8 (1 : Int32))) ∧ (¬ (fn10_ch s (p0 + (2 : Int32))) = p5 → (wp10_spells_c43 s p0 p2 p6 p7 p8))))) ∧ (¬ (fn10_ch s (p0 + (1 : Int32))) = p4 → (wp10_spells_c43 s p0 p2 p6 p7 p8))))) ∧ (¬ (fn10_ch s p0) = p3 → (wp10_spells_c43 s p0 p2 p6 p7 p8))))) ∧ (¬ p1 = p2 → (wp10_spells_c43 s p0 p2 p6 p7 p8)))
set_option maxRecDepth 100000 in
set_option maxHeartbeats 4000000 in
theorem re10_spells (s : hs) (p0 : Int32) (p1 : Int32) (p2 : Int32) (p3 : Int32) (p4 : Int32) (p5 : Int32) (p6 : Int32) (p7 : Int32) (p8 : Int32) (hp : wp10_spells s p0 p1 p2 p3 p4 p5 p6 p7 p8) : am_lf (am_mk kb10_spells 0 0 22) [43, 44, 68, 85, 89, 90, 115] (0, am_L0 [.inr (.inl 0), .inl p0, .inl p1, .inl p2, .inl p3, .inl p4, .inl p5, .inl p6, .inl p7, .inl p8] 11, [], (hm_w s), 0, 0) = some (some (.inl (fn10_spells s p0 p1 p2 p3 p4 p5 p6 p7 p8)), (hm_w s)) := by
  unfold wp10_spells at hp
  have i43 := @rc10_spells_43
  have i44 := @rc10_spells_44
  refine am_lf_eq ?_
  generalize am_lf (am_mk kb10_spells 0 0 22) [43, 44, 68, 85, 89, 90, 115] = kt at i43 i44 ⊢
  refine am_if (c := p1 = p2) (fun h1 => ?_) (fun h1 => ?_)
  · have q1 := hp.1 h1
    refine am_cx (pre := pr10_ch) (f := fm10_ch) (r := (some (.inl (fn10_ch s p0)), (hm_w s), 0, 0)) ?_ ?_ ?_ ?_
    · exact ⟨s, p0, rfl, rfl, q1.1⟩
    · exact fe10_ch s p0
    · exact rfl
    refine am_if (c := (fn10_ch s p0) = p3) (fun h2 => ?_) (fun h2 => ?_)
    · have q2 := q1.2.1 h2
      refine am_cx (pre := pr10_ch) (f := fm10_ch) (r := (some (.inl (fn10_ch s (p0 + (1 : Int32)))), (hm_w s), 0, 0)) ?_ ?_ ?_ ?_
      · exact ⟨s, (p0 + (1 : Int32)), rfl, rfl, q2.1⟩
      · exact fe10_ch s (p0 + (1 : Int32))
      · exact rfl
      refine am_if (c := (fn10_ch s (p0 + (1 : Int32))) = p4) (fun h3 => ?_) (fun h3 => ?_)
      · have q3 := q2.2.1 h3
        refine am_cx (pre := pr10_ch) (f := fm10_ch) (r := (some (.inl (fn10_ch s (p0 + (2 : Int32)))), (hm_w s), 0, 0)) ?_ ?_ ?_ ?_
        · exact ⟨s, (p0 + (2 : Int32)), rfl, rfl, q3.1⟩
        · exact fe10_ch s (p0 + (2 : Int32))
        · exact rfl
        refine am_if (c := (fn10_ch s (p0 + (2 : Int32))) = p5) (fun h4 => ?_) (fun h4 => ?_)
        · have q4 := q3.2.1 h4
          have e : fn10_spells s p0 p1 p2 p3 p4 p5 p6 p7 p8 = fn10_spells_c44 s p0 p2 p6 p7 p8 (1 : Int32) := by
            rw [fq10_spells]
            rw [if_pos h1, if_pos h2, if_pos h3, if_pos h4]
          rw [e]
          exact i44 s p0 p2 p6 p7 p8 (1 : Int32) _ _ _ _ _ rfl rfl rfl rfl rfl q4
        · have q4 := q3.2.2 h4
          have e : fn10_spells s p0 p1 p2 p3 p4 p5 p6 p7 p8 = fn10_spells_c43 s p0 p2 p6 p7 p8 := by
            rw [fq10_spells]
            rw [if_pos h1, if_pos h2, if_pos h3, if_neg h4]
          rw [e]
          exact i43 s p0 p2 p6 p7 p8 _ _ _ _ _ rfl rfl rfl rfl rfl q4
      · have q3 := q2.2.2 h3
        have e : fn10_spells s p0 p1 p2 p3 p4 p5 p6 p7 p8 = fn10_spells_c43 s p0 p2 p6 p7 p8 := by
          rw [fq10_spells]
          rw [if_pos h1, if_pos h2, if_neg h3]
        rw [e]
        exact i43 s p0 p2 p6 p7 p8 _ _ _ _ _ rfl rfl rfl rfl rfl q3
    · have q2 := q1.2.2 h2
      have e : fn10_spells s p0 p1 p2 p3 p4 p5 p6 p7 p8 = fn10_spells_c43 s p0 p2 p6 p7 p8 := by
        rw [fq10_spells]
        rw [if_pos h1, if_neg h2]
      rw [e]
      exact i43 s p0 p2 p6 p7 p8 _ _ _ _ _ rfl rfl rfl rfl rfl q2
  · have q1 := hp.2 h1
    have e : fn10_spells s p0 p1 p2 p3 p4 p5 p6 p7 p8 = fn10_spells_c43 s p0 p2 p6 p7 p8 := by
      rw [fq10_spells]
      rw [if_neg h1]
    rw [e]
    exact i43 s p0 p2 p6 p7 p8 _ _ _ _ _ rfl rfl rfl rfl rfl q1
abbrev pr10_spells : List am_V → List am_C → Prop := fun a w => ∃ (s : hs) (p0 : Int32) (p1 : Int32) (p2 : Int32) (p3 : Int32) (p4 : Int32) (p5 : Int32) (p6 : Int32) (p7 : Int32) (p8 : Int32), a = [.inr (.inl 0), .inl p0, .inl p1, .inl p2, .inl p3, .inl p4, .inl p5, .inl p6, .inl p7, .inl p8] ∧ w = (hm_w s) ∧ wp10_spells s p0 p1 p2 p3 p4 p5 p6 p7 p8
noncomputable def fm10_spells : am_M := fun a w => (fun (z : Int32) => (some (.inl z), (hm_w (hm_st w 0)), 0, 0)) (fn10_spells (hm_st w 0) (am_i (am_an a 1)) (am_i (am_an a 2)) (am_i (am_an a 3)) (am_i (am_an a 4)) (am_i (am_an a 5)) (am_i (am_an a 6)) (am_i (am_an a 7)) (am_i (am_an a 8)) (am_i (am_an a 9)))
theorem fe10_spells (s : hs) (p0 : Int32) (p1 : Int32) (p2 : Int32) (p3 : Int32) (p4 : Int32) (p5 : Int32) (p6 : Int32) (p7 : Int32) (p8 : Int32) : fm10_spells [.inr (.inl 0), .inl p0, .inl p1, .inl p2, .inl p3, .inl p4, .inl p5, .inl p6, .inl p7, .inl p8] (hm_w s) = (some (.inl (fn10_spells s p0 p1 p2 p3 p4 p5 p6 p7 p8)), (hm_w s), 0, 0) := rfl
set_option maxRecDepth 100000 in
set_option maxHeartbeats 4000000 in
theorem rn10_spells : ∀ (a : List am_V) (w : List am_C), pr10_spells a w → ∃ nq, am_ev (am_mk kb10_spells (fm10_spells a w).2.2.1 (fm10_spells a w).2.2.2 w.length) [43, 44, 68, 85, 89, 90, 115] nq (0, am_L0 a 11, [], w, 0, 0) = some ((fm10_spells a w).1, (fm10_spells a w).2.1) := by
  rintro a w ⟨s, p0, p1, p2, p3, p4, p5, p6, p7, p8, rfl, rfl, hp⟩
  rw [fe10_spells s p0 p1 p2 p3 p4 p5 p6 p7 p8]
  exact am_lf_ev (re10_spells s p0 p1 p2 p3 p4 p5 p6 p7 p8 hp)
theorem rl10_spells : ∀ (a : List am_V) (w : List am_C), pr10_spells a w → a.length ≤ 11 := by
  rintro a w ⟨s, p0, p1, p2, p3, p4, p5, p6, p7, p8, rfl, rfl, hp⟩
  exact Nat.le_of_ble_eq_true rfl
theorem pa10_spells : ∀ a w, pr10_spells a w → ∃ q a' ci fs r, a = .inr (.inl q) :: a' ∧ w[q]? = some (.inr (ci, fs)) ∧ hn_cl[ci]? = some r ∧ r.1 = hn_R10 := by
  rintro a w ⟨s, p0, p1, p2, p3, p4, p5, p6, p7, p8, rfl, rfl, hp⟩
  exact ⟨0, _, 10, _, _, rfl, rfl, rfl, rfl⟩
set_option maxRecDepth 100000 in
set_option maxHeartbeats 4000000 in
theorem km10_spells {l : Launch} {E : (Nat → Prop) → State → Prop} {D : va_G} {ou : Nat → Nat} {ca : Nat → ClassId} (hE : am_EC E) : hg_Met l E D ou ca hy10_spells prog_12_method_18_code 11 (some .boolean) 1 pr10_spells fm10_spells := by
  refine am_met (B := kb10_spells) (cuts := [43, 44, 68, 85, 89, 90, 115]) (nt := 5) (by decide +kernel) rfl rfl (hg_tys_ok ca) ?_ (by decide) rl10_spells ?_ rn10_spells
  · exact fun t ht => List.mem_cons_of_mem _ (hg_arr t ht)
  · intro a w hp ad p e R s m args below meth c hR X hEs hnm
    have hR1 : 1 ≤ R.frames ∧ 40 ≤ R.locals := by rw [hR]; exact ⟨Nat.le_refl _, Nat.le_refl _⟩
    refine ⟨kd10_spells_ok, fun index ci fi mode hq => kf10_ok X.2.2.2.2.1 (index, ci, fi, mode) (am_as_mem hq), fun index ci fs hq => (am_no hq).elim, fun x v hq => (am_no hq).elim, ?_, fun o t n f hq => (am_no hq).elim, rfl, rfl, by rw [hR]; exact Nat.le_refl _, by rw [hR]; exact Nat.le_refl _⟩
    intro pc sel n0 pre0 f0 hq
    have hz : ∀ q ∈ ki10_spells, am_CK p l e R s m args below meth c D hn_cl (va_A (am_w ad ou ca w) s.heap.size) ou ca 11 q.1 q.2.2.1 q.2.2.2.1 q.2.2.2.2 := by
      refine am_allc (am_ck_V (n := 1) X hEs hE (km10_ch hE) (hg_good (gw_mem 1147 (by decide +kernel))) rfl (List.mem_cons_of_mem _ (gw_mem 76 (by decide +kernel))) (List.mem_cons_of_mem _ (gw_mem 1144 (by decide +kernel))) (List.mem_cons_of_mem _ (gw_mem 1146 (by decide +kernel))) (List.mem_cons_of_mem _ (gw_mem 21 (by decide +kernel))) pa10_ch (by decide +kernel) ⟨Nat.le_trans (by decide) hR1.1, Nat.le_trans (by decide) hR1.2⟩ (kd10_spells_ok (7, .invokevirtual 114, 3) (List.mem_of_getElem? (i := 5) rfl))) (am_allc (am_ck_V (n := 1) X hEs hE (km10_ch hE) (hg_good (gw_mem 1147 (by decide +kernel))) rfl (List.mem_cons_of_mem _ (gw_mem 76 (by decide +kernel))) (List.mem_cons_of_mem _ (gw_mem 1144 (by decide +kernel))) (List.mem_cons_of_mem _ (gw_mem 1146 (by decide +kernel))) (List.mem_cons_of_mem _ (gw_mem 21 (by decide +kernel))) pa10_ch (by decide +kernel) ⟨Nat.le_trans (by decide) hR1.1, Nat.le_trans (by decide) hR1.2⟩ (kd10_spells_ok (19, .invokevirtual 114, 3) (List.mem_of_getElem? (i := 12) rfl))) (am_allc (am_ck_V (n := 1) X hEs hE (km10_ch hE) (hg_good (gw_mem 1147 (by decide +kernel))) rfl (List.mem_cons_of_mem _ (gw_mem 76 (by decide +kernel))) (List.mem_cons_of_mem _ (gw_mem 1144 (by decide +kernel))) (List.mem_cons_of_mem _ (gw_mem 1146 (by decide +kernel))) (List.mem_cons_of_mem _ (gw_mem 21 (by decide +kernel))) pa10_ch (by decide +kernel) ⟨Nat.le_trans (by decide) hR1.1, Nat.le_trans (by decide) hR1.2⟩ (kd10_spells_ok (31, .invokevirtual 114, 3) (List.mem_of_getElem? (i := 19) rfl))) (am_allc (am_ck_V (n := 1) X hEs hE (km10_ch hE) (hg_good (gw_mem 1147 (by decide +kernel))) rfl (List.mem_cons_of_mem _ (gw_mem 76 (by decide +kernel))) (List.mem_cons_of_mem _ (gw_mem 1144 (by decide +kernel))) (List.mem_cons_of_mem _ (gw_mem 1146 (by decide +kernel))) (List.mem_cons_of_mem _ (gw_mem 21 (by decide +kernel))) pa10_ch (by decide +kernel) ⟨Nat.le_trans (by decide) hR1.1, Nat.le_trans (by decide) hR1.2⟩ (kd10_spells_ok (60, .invokevirtual 114, 3) (List.mem_of_getElem? (i := 35) rfl))) (am_allc (am_ck_V (n := 1) X hEs hE (km10_ch hE) (hg_good (gw_mem 1147 (by decide +kernel))) rfl (List.mem_cons_of_mem _ (gw_mem 76 (by decide +kernel))) (List.mem_cons_of_mem _ (gw_mem 1144 (by decide +kernel))) (List.mem_cons_of_mem _ (gw_mem 1146 (by decide +kernel))) (List.mem_cons_of_mem _ (gw_mem 21 (by decide +kernel))) pa10_ch (by decide +kernel) ⟨Nat.le_trans (by decide) hR1.1, Nat.le_trans (by decide) hR1.2⟩ (kd10_spells_ok (77, .invokevirtual 114, 3) (List.mem_of_getElem? (i := 45) rfl))) (am_allc (am_ck_V (n := 1) X hEs hE (km10_ch hE) (hg_good (gw_mem 1147 (by decide +kernel))) rfl (List.mem_cons_of_mem _ (gw_mem 76 (by decide +kernel))) (List.mem_cons_of_mem _ (gw_mem 1144 (by decide +kernel))) (List.mem_cons_of_mem _ (gw_mem 1146 (by decide +kernel))) (List.mem_cons_of_mem _ (gw_mem 21 (by decide +kernel))) pa10_ch (by decide +kernel) ⟨Nat.le_trans (by decide) hR1.1, Nat.le_trans (by decide) hR1.2⟩ (kd10_spells_ok (107, .invokevirtual 114, 3) (List.mem_of_getElem? (i := 61) rfl))) (am_all0))))))
    exact hz _ (am_as_mem hq)
noncomputable def ki10_isScript : List (Nat × Option (List Nat) × Nat × (List am_V → List am_C → Prop) × am_M) := [(17, none, 10, pr10_spells, fm10_spells)]
noncomputable def kb10_isScript : am_B := (kd10_isScript, am_as kf10, hn_ty, fun _ => none, fun _ => none, am_as ki10_isScript, fun _ => none, 5, 3, (some .boolean))
noncomputable def fn10_isScript (s : hs) (p0 : Int32) (p1 : Int32) : Int32 := Classical.choose (⟨_, rfl⟩ : ∃ z : Int32, z = (fn10_spells s p0 p1 (6 : Int32) (115 : Int32) (99 : Int32) (114 : Int32) (105 : Int32) (112 : Int32) (116 : Int32)))
theorem fq10_isScript (s : hs) (p0 : Int32) (p1 : Int32) : fn10_isScript s p0 p1 = (fn10_spells s p0 p1 (6 : Int32) (115 : Int32) (99 : Int32) (114 : Int32) (105 : Int32) (112 : Int32) (116 : Int32)) := Classical.choose_spec (⟨_, rfl⟩ : ∃ z : Int32, z = (fn10_spells s p0 p1 (6 : Int32) (115 : Int32) (99 : Int32) (114 : Int32) (105 : Int32) (112 : Int32) (116 : Int32)))
def wp10_isScript (s : hs) (p0 : Int32) (p1 : Int32) : Prop := ((wp10_spells s p0 p1 (6 : Int32) (115 : Int32) (99 : Int32) (114 : Int32) (105 : Int32) (112 : Int32) (116 : Int32)) ∧ (am_fit .boolean (.inl (fn10_spells s p0 p1 (6 : Int32) (115 : Int32) (99 : Int32) (114 : Int32) (105 : Int32) (112 : Int32) (116 : Int32))) = true))
set_option maxRecDepth 100000 in
set_option maxHeartbeats 4000000 in
theorem re10_isScript (s : hs) (p0 : Int32) (p1 : Int32) (hp : wp10_isScript s p0 p1) : am_lf (am_mk kb10_isScript 0 0 22) [] (0, am_L0 [.inr (.inl 0), .inl p0, .inl p1] 3, [], (hm_w s), 0, 0) = some (some (.inl (fn10_isScript s p0 p1)), (hm_w s)) := by
  unfold wp10_isScript at hp
  refine am_lf_eq ?_
  generalize am_lf (am_mk kb10_isScript 0 0 22) [] = kt
  refine am_cx (pre := pr10_spells) (f := fm10_spells) (r := (some (.inl (fn10_spells s p0 p1 (6 : Int32) (115 : Int32) (99 : Int32) (114 : Int32) (105 : Int32) (112 : Int32) (116 : Int32))), (hm_w s), 0, 0)) ?_ ?_ ?_ ?_
  · exact ⟨s, p0, p1, (6 : Int32), (115 : Int32), (99 : Int32), (114 : Int32), (105 : Int32), (112 : Int32), (116 : Int32), rfl, rfl, hp.1⟩
  · exact fe10_spells s p0 p1 (6 : Int32) (115 : Int32) (99 : Int32) (114 : Int32) (105 : Int32) (112 : Int32) (116 : Int32)
  · exact rfl
  refine am_ci (c := am_fit .boolean (.inl (fn10_spells s p0 p1 (6 : Int32) (115 : Int32) (99 : Int32) (114 : Int32) (105 : Int32) (112 : Int32) (116 : Int32))) = true) hp.2 ?_
  have e : fn10_isScript s p0 p1 = (fn10_spells s p0 p1 (6 : Int32) (115 : Int32) (99 : Int32) (114 : Int32) (105 : Int32) (112 : Int32) (116 : Int32)) := by
    rw [fq10_isScript]
  rw [e] <;> rfl
abbrev pr10_isScript : List am_V → List am_C → Prop := fun a w => ∃ (s : hs) (p0 : Int32) (p1 : Int32), a = [.inr (.inl 0), .inl p0, .inl p1] ∧ w = (hm_w s) ∧ wp10_isScript s p0 p1
noncomputable def fm10_isScript : am_M := fun a w => (fun (z : Int32) => (some (.inl z), (hm_w (hm_st w 0)), 0, 0)) (fn10_isScript (hm_st w 0) (am_i (am_an a 1)) (am_i (am_an a 2)))
theorem fe10_isScript (s : hs) (p0 : Int32) (p1 : Int32) : fm10_isScript [.inr (.inl 0), .inl p0, .inl p1] (hm_w s) = (some (.inl (fn10_isScript s p0 p1)), (hm_w s), 0, 0) := rfl
set_option maxRecDepth 100000 in
set_option maxHeartbeats 4000000 in
theorem rn10_isScript : ∀ (a : List am_V) (w : List am_C), pr10_isScript a w → ∃ nq, am_ev (am_mk kb10_isScript (fm10_isScript a w).2.2.1 (fm10_isScript a w).2.2.2 w.length) [] nq (0, am_L0 a 3, [], w, 0, 0) = some ((fm10_isScript a w).1, (fm10_isScript a w).2.1) := by
  rintro a w ⟨s, p0, p1, rfl, rfl, hp⟩
  rw [fe10_isScript s p0 p1]
  exact am_lf_ev (re10_isScript s p0 p1 hp)
theorem rl10_isScript : ∀ (a : List am_V) (w : List am_C), pr10_isScript a w → a.length ≤ 3 := by
  rintro a w ⟨s, p0, p1, rfl, rfl, hp⟩
  exact Nat.le_of_ble_eq_true rfl
theorem pa10_isScript : ∀ a w, pr10_isScript a w → ∃ q a' ci fs r, a = .inr (.inl q) :: a' ∧ w[q]? = some (.inr (ci, fs)) ∧ hn_cl[ci]? = some r ∧ r.1 = hn_R10 := by
  rintro a w ⟨s, p0, p1, rfl, rfl, hp⟩
  exact ⟨0, _, 10, _, _, rfl, rfl, rfl, rfl⟩
set_option maxRecDepth 100000 in
set_option maxHeartbeats 4000000 in
theorem km10_isScript {l : Launch} {E : (Nat → Prop) → State → Prop} {D : va_G} {ou : Nat → Nat} {ca : Nat → ClassId} (hE : am_EC E) : hg_Met l E D ou ca hy10_isScript prog_12_method_19_code 3 (some .boolean) 2 pr10_isScript fm10_isScript := by
  refine am_met (B := kb10_isScript) (cuts := []) (nt := 5) (by decide +kernel) rfl rfl (hg_tys_ok ca) ?_ (by decide) rl10_isScript ?_ rn10_isScript
  · exact fun t ht => List.mem_cons_of_mem _ (hg_arr t ht)
  · intro a w hp ad p e R s m args below meth c hR X hEs hnm
    have hR1 : 2 ≤ R.frames ∧ 80 ≤ R.locals := by rw [hR]; exact ⟨Nat.le_refl _, Nat.le_refl _⟩
    refine ⟨kd10_isScript_ok, fun index ci fi mode hq => kf10_ok X.2.2.2.2.1 (index, ci, fi, mode) (am_as_mem hq), fun index ci fs hq => (am_no hq).elim, fun x v hq => (am_no hq).elim, ?_, fun o t n f hq => (am_no hq).elim, rfl, rfl, by rw [hR]; exact Nat.le_refl _, by rw [hR]; exact Nat.le_refl _⟩
    intro pc sel n0 pre0 f0 hq
    have hz : ∀ q ∈ ki10_isScript, am_CK p l e R s m args below meth c D hn_cl (va_A (am_w ad ou ca w) s.heap.size) ou ca 3 q.1 q.2.2.1 q.2.2.2.1 q.2.2.2.2 := by
      refine am_allc (am_ck_V (n := 9) X hEs hE (km10_spells hE) (hg_good (gw_mem 1176 (by decide +kernel))) rfl (List.mem_cons_of_mem _ (gw_mem 76 (by decide +kernel))) (List.mem_cons_of_mem _ (gw_mem 1173 (by decide +kernel))) (List.mem_cons_of_mem _ (gw_mem 1175 (by decide +kernel))) (List.mem_cons_of_mem _ (gw_mem 26 (by decide +kernel))) pa10_spells (by decide +kernel) ⟨Nat.le_trans (by decide) hR1.1, Nat.le_trans (by decide) hR1.2⟩ (kd10_isScript_ok (17, .invokevirtual 120, 3) (List.mem_of_getElem? (i := 10) rfl))) (am_all0)
    exact hz _ (am_as_mem hq)
noncomputable def ki10_isStyle : List (Nat × Option (List Nat) × Nat × (List am_V → List am_C → Prop) × am_M) := [(16, none, 10, pr10_spells, fm10_spells)]
noncomputable def kb10_isStyle : am_B := (kd10_isStyle, am_as kf10, hn_ty, fun _ => none, fun _ => none, am_as ki10_isStyle, fun _ => none, 5, 3, (some .boolean))
noncomputable def fn10_isStyle (s : hs) (p0 : Int32) (p1 : Int32) : Int32 := Classical.choose (⟨_, rfl⟩ : ∃ z : Int32, z = (fn10_spells s p0 p1 (5 : Int32) (115 : Int32) (116 : Int32) (121 : Int32) (108 : Int32) (101 : Int32) (101 : Int32)))
theorem fq10_isStyle (s : hs) (p0 : Int32) (p1 : Int32) : fn10_isStyle s p0 p1 = (fn10_spells s p0 p1 (5 : Int32) (115 : Int32) (116 : Int32) (121 : Int32) (108 : Int32) (101 : Int32) (101 : Int32)) := Classical.choose_spec (⟨_, rfl⟩ : ∃ z : Int32, z = (fn10_spells s p0 p1 (5 : Int32) (115 : Int32) (116 : Int32) (121 : Int32) (108 : Int32) (101 : Int32) (101 : Int32)))
def wp10_isStyle (s : hs) (p0 : Int32) (p1 : Int32) : Prop := ((wp10_spells s p0 p1 (5 : Int32) (115 : Int32) (116 : Int32) (121 : Int32) (108 : Int32) (101 : Int32) (101 : Int32)) ∧ (am_fit .boolean (.inl (fn10_spells s p0 p1 (5 : Int32) (115 : Int32) (116 : Int32) (121 : Int32) (108 : Int32) (101 : Int32) (101 : Int32))) = true))
set_option maxRecDepth 100000 in
set_option maxHeartbeats 4000000 in
theorem re10_isStyle (s : hs) (p0 : Int32) (p1 : Int32) (hp : wp10_isStyle s p0 p1) : am_lf (am_mk kb10_isStyle 0 0 22) [] (0, am_L0 [.inr (.inl 0), .inl p0, .inl p1] 3, [], (hm_w s), 0, 0) = some (some (.inl (fn10_isStyle s p0 p1)), (hm_w s)) := by
  unfold wp10_isStyle at hp
  refine am_lf_eq ?_
  generalize am_lf (am_mk kb10_isStyle 0 0 22) [] = kt
  refine am_cx (pre := pr10_spells) (f := fm10_spells) (r := (some (.inl (fn10_spells s p0 p1 (5 : Int32) (115 : Int32) (116 : Int32) (121 : Int32) (108 : Int32) (101 : Int32) (101 : Int32))), (hm_w s), 0, 0)) ?_ ?_ ?_ ?_
  · exact ⟨s, p0, p1, (5 : Int32), (115 : Int32), (116 : Int32), (121 : Int32), (108 : Int32), (101 : Int32), (101 : Int32), rfl, rfl, hp.1⟩
  · exact fe10_spells s p0 p1 (5 : Int32) (115 : Int32) (116 : Int32) (121 : Int32) (108 : Int32) (101 : Int32) (101 : Int32)
  · exact rfl
  refine am_ci (c := am_fit .boolean (.inl (fn10_spells s p0 p1 (5 : Int32) (115 : Int32) (116 : Int32) (121 : Int32) (108 : Int32) (101 : Int32) (101 : Int32))) = true) hp.2 ?_
  have e : fn10_isStyle s p0 p1 = (fn10_spells s p0 p1 (5 : Int32) (115 : Int32) (116 : Int32) (121 : Int32) (108 : Int32) (101 : Int32) (101 : Int32)) := by
    rw [fq10_isStyle]
  rw [e] <;> rfl
abbrev pr10_isStyle : List am_V → List am_C → Prop := fun a w => ∃ (s : hs) (p0 : Int32) (p1 : Int32), a = [.inr (.inl 0), .inl p0, .inl p1] ∧ w = (hm_w s) ∧ wp10_isStyle s p0 p1
noncomputable def fm10_isStyle : am_M := fun a w => (fun (z : Int32) => (some (.inl z), (hm_w (hm_st w 0)), 0, 0)) (fn10_isStyle (hm_st w 0) (am_i (am_an a 1)) (am_i (am_an a 2)))
theorem fe10_isStyle (s : hs) (p0 : Int32) (p1 : Int32) : fm10_isStyle [.inr (.inl 0), .inl p0, .inl p1] (hm_w s) = (some (.inl (fn10_isStyle s p0 p1)), (hm_w s), 0, 0) := rfl
set_option maxRecDepth 100000 in
set_option maxHeartbeats 4000000 in
theorem rn10_isStyle : ∀ (a : List am_V) (w : List am_C), pr10_isStyle a w → ∃ nq, am_ev (am_mk kb10_isStyle (fm10_isStyle a w).2.2.1 (fm10_isStyle a w).2.2.2 w.length) [] nq (0, am_L0 a 3, [], w, 0, 0) = some ((fm10_isStyle a w).1, (fm10_isStyle a w).2.1) := by
  rintro a w ⟨s, p0, p1, rfl, rfl, hp⟩
  rw [fe10_isStyle s p0 p1]
  exact am_lf_ev (re10_isStyle s p0 p1 hp)
theorem rl10_isStyle : ∀ (a : List am_V) (w : List am_C), pr10_isStyle a w → a.length ≤ 3 := by
  rintro a w ⟨s, p0, p1, rfl, rfl, hp⟩
  exact Nat.le_of_ble_eq_true rfl
theorem pa10_isStyle : ∀ a w, pr10_isStyle a w → ∃ q a' ci fs r, a = .inr (.inl q) :: a' ∧ w[q]? = some (.inr (ci, fs)) ∧ hn_cl[ci]? = some r ∧ r.1 = hn_R10 := by
  rintro a w ⟨s, p0, p1, rfl, rfl, hp⟩
  exact ⟨0, _, 10, _, _, rfl, rfl, rfl, rfl⟩
set_option maxRecDepth 100000 in
set_option maxHeartbeats 4000000 in
theorem km10_isStyle {l : Launch} {E : (Nat → Prop) → State → Prop} {D : va_G} {ou : Nat → Nat} {ca : Nat → ClassId} (hE : am_EC E) : hg_Met l E D ou ca hy10_isStyle prog_12_method_20_code 3 (some .boolean) 2 pr10_isStyle fm10_isStyle := by
  refine am_met (B := kb10_isStyle) (cuts := []) (nt := 5) (by decide +kernel) rfl rfl (hg_tys_ok ca) ?_ (by decide) rl10_isStyle ?_ rn10_isStyle
  · exact fun t ht => List.mem_cons_of_mem _ (hg_arr t ht)
  · intro a w hp ad p e R s m args below meth c hR X hEs hnm
    have hR1 : 2 ≤ R.frames ∧ 80 ≤ R.locals := by rw [hR]; exact ⟨Nat.le_refl _, Nat.le_refl _⟩
    refine ⟨kd10_isStyle_ok, fun index ci fi mode hq => kf10_ok X.2.2.2.2.1 (index, ci, fi, mode) (am_as_mem hq), fun index ci fs hq => (am_no hq).elim, fun x v hq => (am_no hq).elim, ?_, fun o t n f hq => (am_no hq).elim, rfl, rfl, by rw [hR]; exact Nat.le_refl _, by rw [hR]; exact Nat.le_refl _⟩
    intro pc sel n0 pre0 f0 hq
    have hz : ∀ q ∈ ki10_isStyle, am_CK p l e R s m args below meth c D hn_cl (va_A (am_w ad ou ca w) s.heap.size) ou ca 3 q.1 q.2.2.1 q.2.2.2.1 q.2.2.2.2 := by
      refine am_allc (am_ck_V (n := 9) X hEs hE (km10_spells hE) (hg_good (gw_mem 1176 (by decide +kernel))) rfl (List.mem_cons_of_mem _ (gw_mem 76 (by decide +kernel))) (List.mem_cons_of_mem _ (gw_mem 1173 (by decide +kernel))) (List.mem_cons_of_mem _ (gw_mem 1175 (by decide +kernel))) (List.mem_cons_of_mem _ (gw_mem 26 (by decide +kernel))) pa10_spells (by decide +kernel) ⟨Nat.le_trans (by decide) hR1.1, Nat.le_trans (by decide) hR1.2⟩ (kd10_isStyle_ok (16, .invokevirtual 120, 3) (List.mem_of_getElem? (i := 10) rfl))) (am_all0)
    exact hz _ (am_as_mem hq)
noncomputable def ki10_isTitle : List (Nat × Option (List Nat) × Nat × (List am_V → List am_C → Prop) × am_M) := [(16, none, 10, pr10_spells, fm10_spells)]
noncomputable def kb10_isTitle : am_B := (kd10_isTitle, am_as kf10, hn_ty, fun _ => none, fun _ => none, am_as ki10_isTitle, fun _ => none, 5, 3, (some .boolean))
noncomputable def fn10_isTitle (s : hs) (p0 : Int32) (p1 : Int32) : Int32 := Classical.choose (⟨_, rfl⟩ : ∃ z : Int32, z = (fn10_spells s p0 p1 (5 : Int32) (116 : Int32) (105 : Int32) (116 : Int32) (108 : Int32) (101 : Int32) (101 : Int32)))
theorem fq10_isTitle (s : hs) (p0 : Int32) (p1 : Int32) : fn10_isTitle s p0 p1 = (fn10_spells s p0 p1 (5 : Int32) (116 : Int32) (105 : Int32) (116 : Int32) (108 : Int32) (101 : Int32) (101 : Int32)) := Classical.choose_spec (⟨_, rfl⟩ : ∃ z : Int32, z = (fn10_spells s p0 p1 (5 : Int32) (116 : Int32) (105 : Int32) (116 : Int32) (108 : Int32) (101 : Int32) (101 : Int32)))
def wp10_isTitle (s : hs) (p0 : Int32) (p1 : Int32) : Prop := ((wp10_spells s p0 p1 (5 : Int32) (116 : Int32) (105 : Int32) (116 : Int32) (108 : Int32) (101 : Int32) (101 : Int32)) ∧ (am_fit .boolean (.inl (fn10_spells s p0 p1 (5 : Int32) (116 : Int32) (105 : Int32) (116 : Int32) (108 : Int32) (101 : Int32) (101 : Int32))) = true))
set_option maxRecDepth 100000 in
set_option maxHeartbeats 4000000 in
theorem re10_isTitle (s : hs) (p0 : Int32) (p1 : Int32) (hp : wp10_isTitle s p0 p1) : am_lf (am_mk kb10_isTitle 0 0 22) [] (0, am_L0 [.inr (.inl 0), .inl p0, .inl p1] 3, [], (hm_w s), 0, 0) = some (some (.inl (fn10_isTitle s p0 p1)), (hm_w s)) := by
  unfold wp10_isTitle at hp
  refine am_lf_eq ?_
  generalize am_lf (am_mk kb10_isTitle 0 0 22) [] = kt
  refine am_cx (pre := pr10_spells) (f := fm10_spells) (r := (some (.inl (fn10_spells s p0 p1 (5 : Int32) (116 : Int32) (105 : Int32) (116 : Int32) (108 : Int32) (101 : Int32) (101 : Int32))), (hm_w s), 0, 0)) ?_ ?_ ?_ ?_
  · exact ⟨s, p0, p1, (5 : Int32), (116 : Int32), (105 : Int32), (116 : Int32), (108 : Int32), (101 : Int32), (101 : Int32), rfl, rfl, hp.1⟩
  · exact fe10_spells s p0 p1 (5 : Int32) (116 : Int32) (105 : Int32) (116 : Int32) (108 : Int32) (101 : Int32) (101 : Int32)
  · exact rfl
  refine am_ci (c := am_fit .boolean (.inl (fn10_spells s p0 p1 (5 : Int32) (116 : Int32) (105 : Int32) (116 : Int32) (108 : Int32) (101 : Int32) (101 : Int32))) = true) hp.2 ?_
  have e : fn10_isTitle s p0 p1 = (fn10_spells s p0 p1 (5 : Int32) (116 : Int32) (105 : Int32) (116 : Int32) (108 : Int32) (101 : Int32) (101 : Int32)) := by
    rw [fq10_isTitle]
  rw [e] <;> rfl
abbrev pr10_isTitle : List am_V → List am_C → Prop := fun a w => ∃ (s : hs) (p0 : Int32) (p1 : Int32), a = [.inr (.inl 0), .inl p0, .inl p1] ∧ w = (hm_w s) ∧ wp10_isTitle s p0 p1
noncomputable def fm10_isTitle : am_M := fun a w => (fun (z : Int32) => (some (.inl z), (hm_w (hm_st w 0)), 0, 0)) (fn10_isTitle (hm_st w 0) (am_i (am_an a 1)) (am_i (am_an a 2)))
theorem fe10_isTitle (s : hs) (p0 : Int32) (p1 : Int32) : fm10_isTitle [.inr (.inl 0), .inl p0, .inl p1] (hm_w s) = (some (.inl (fn10_isTitle s p0 p1)), (hm_w s), 0, 0) := rfl
set_option maxRecDepth 100000 in
set_option maxHeartbeats 4000000 in
theorem rn10_isTitle : ∀ (a : List am_V) (w : List am_C), pr10_isTitle a w → ∃ nq, am_ev (am_mk kb10_isTitle (fm10_isTitle a w).2.2.1 (fm10_isTitle a w).2.2.2 w.length) [] nq (0, am_L0 a 3, [], w, 0, 0) = some ((fm10_isTitle a w).1, (fm10_isTitle a w).2.1) := by
  rintro a w ⟨s, p0, p1, rfl, rfl, hp⟩
  rw [fe10_isTitle s p0 p1]
  exact am_lf_ev (re10_isTitle s p0 p1 hp)
theorem rl10_isTitle : ∀ (a : List am_V) (w : List am_C), pr10_isTitle a w → a.length ≤ 3 := by
  rintro a w ⟨s, p0, p1, rfl, rfl, hp⟩
  exact Nat.le_of_ble_eq_true rfl
theorem pa10_isTitle : ∀ a w, pr10_isTitle a w → ∃ q a' ci fs r, a = .inr (.inl q) :: a' ∧ w[q]? = some (.inr (ci, fs)) ∧ hn_cl[ci]? = some r ∧ r.1 = hn_R10 := by
  rintro a w ⟨s, p0, p1, rfl, rfl, hp⟩
  exact ⟨0, _, 10, _, _, rfl, rfl, rfl, rfl⟩
set_option maxRecDepth 100000 in
set_option maxHeartbeats 4000000 in
theorem km10_isTitle {l : Launch} {E : (Nat → Prop) → State → Prop} {D : va_G} {ou : Nat → Nat} {ca : Nat → ClassId} (hE : am_EC E) : hg_Met l E D ou ca hy10_isTitle prog_12_method_21_code 3 (some .boolean) 2 pr10_isTitle fm10_isTitle := by
  refine am_met (B := kb10_isTitle) (cuts := []) (nt := 5) (by decide +kernel) rfl rfl (hg_tys_ok ca) ?_ (by decide) rl10_isTitle ?_ rn10_isTitle
  · exact fun t ht => List.mem_cons_of_mem _ (hg_arr t ht)
  · intro a w hp ad p e R s m args below meth c hR X hEs hnm
    have hR1 : 2 ≤ R.frames ∧ 80 ≤ R.locals := by rw [hR]; exact ⟨Nat.le_refl _, Nat.le_refl _⟩
    refine ⟨kd10_isTitle_ok, fun index ci fi mode hq => kf10_ok X.2.2.2.2.1 (index, ci, fi, mode) (am_as_mem hq), fun index ci fs hq => (am_no hq).elim, fun x v hq => (am_no hq).elim, ?_, fun o t n f hq => (am_no hq).elim, rfl, rfl, by rw [hR]; exact Nat.le_refl _, by rw [hR]; exact Nat.le_refl _⟩
    intro pc sel n0 pre0 f0 hq
    have hz : ∀ q ∈ ki10_isTitle, am_CK p l e R s m args below meth c D hn_cl (va_A (am_w ad ou ca w) s.heap.size) ou ca 3 q.1 q.2.2.1 q.2.2.2.1 q.2.2.2.2 := by
      refine am_allc (am_ck_V (n := 9) X hEs hE (km10_spells hE) (hg_good (gw_mem 1176 (by decide +kernel))) rfl (List.mem_cons_of_mem _ (gw_mem 76 (by decide +kernel))) (List.mem_cons_of_mem _ (gw_mem 1173 (by decide +kernel))) (List.mem_cons_of_mem _ (gw_mem 1175 (by decide +kernel))) (List.mem_cons_of_mem _ (gw_mem 26 (by decide +kernel))) pa10_spells (by decide +kernel) ⟨Nat.le_trans (by decide) hR1.1, Nat.le_trans (by decide) hR1.2⟩ (kd10_isTitle_ok (16, .invokevirtual 120, 3) (List.mem_of_getElem? (i := 10) rfl))) (am_all0)
    exact hz _ (am_as_mem hq)
noncomputable def ki10_go : List (Nat × Option (List Nat) × Nat × (List am_V → List am_C → Prop) × am_M) := []
noncomputable def kb10_go : am_B := (kd10_go, am_as kf10, hn_ty, fun _ => none, fun _ => none, am_as ki10_go, fun _ => none, 5, 2, none)
noncomputable def fn10_go_c20 (s : hs) : hs := (hu_part s (0 : Int32))
def wp10_go_c20 (s : hs) : Prop := True
set_option maxRecDepth 100000 in
set_option maxHeartbeats 4000000 in
theorem rc10_go_20 (s : hs) (j1 : Option am_V) (g1 : am_loO 22 j1 = true) (hp : wp10_go_c20 s) : am_lf (am_mk kb10_go 0 0 22) [5, 10, 15, 20] (20, [some (.inr (.inl 0)), j1], [], (hm_w s), 0, 0) = some (none, (hm_w (fn10_go_c20 s))) := by
  unfold wp10_go_c20 at hp
  refine am_lf_eq ?_
  generalize am_lf (am_mk kb10_go 0 0 22) [5, 10, 15, 20] = kt
  refine am_sp (w' := (hm_w (hu_part s (0 : Int32)))) (kp_R_0_part s (0 : Int32)) ?_
  have e : fn10_go_c20 s = (hu_part s (0 : Int32)) := by
    rw [fn10_go_c20]
  rw [e] <;> rfl
noncomputable def fn10_go_c15 (s : hs) : hs := (fn10_go_c20 (hu_kind s (0 : Int32)))
def wp10_go_c15 (s : hs) : Prop := (wp10_go_c20 (hu_kind s (0 : Int32)))
set_option maxRecDepth 100000 in
set_option maxHeartbeats 4000000 in
theorem rc10_go_15 (s : hs) (j1 : Option am_V) (g1 : am_loO 22 j1 = true) (hp : wp10_go_c15 s) : am_lf (am_mk kb10_go 0 0 22) [5, 10, 15, 20] (15, [some (.inr (.inl 0)), j1], [], (hm_w s), 0, 0) = some (none, (hm_w (fn10_go_c15 s))) := by
  unfold wp10_go_c15 at hp
  have i20 := @rc10_go_20
  refine am_lf_eq ?_
  generalize am_lf (am_mk kb10_go 0 0 22) [5, 10, 15, 20] = kt at i20 ⊢
  refine am_sp (w' := (hm_w (hu_kind s (0 : Int32)))) (kp_R_0_kind s (0 : Int32)) ?_
  have e : fn10_go_c15 s = fn10_go_c20 (hu_kind s (0 : Int32)) := by
    rw [fn10_go_c15]
  rw [e]
  exact i20 (hu_kind s (0 : Int32)) _ g1 hp
noncomputable def fn10_go_c10 (s : hs) : hs := (fn10_go_c15 (hu_quote s (0 : Int32)))
def wp10_go_c10 (s : hs) : Prop := (wp10_go_c15 (hu_quote s (0 : Int32)))
set_option maxRecDepth 100000 in
set_option maxHeartbeats 4000000 in
theorem rc10_go_10 (s : hs) (j1 : Option am_V) (g1 : am_loO 22 j1 = true) (hp : wp10_go_c10 s) : am_lf (am_mk kb10_go 0 0 22) [5, 10, 15, 20] (10, [some (.inr (.inl 0)), j1], [], (hm_w s), 0, 0) = some (none, (hm_w (fn10_go_c10 s))) := by
  unfold wp10_go_c10 at hp
  have i15 := @rc10_go_15
  refine am_lf_eq ?_
  generalize am_lf (am_mk kb10_go 0 0 22) [5, 10, 15, 20] = kt at i15 ⊢
  refine am_sp (w' := (hm_w (hu_quote s (0 : Int32)))) (kp_R_0_quote s (0 : Int32)) ?_
  have e : fn10_go_c10 s = fn10_go_c15 (hu_quote s (0 : Int32)) := by
    rw [fn10_go_c10]
  rw [e]
  exact i15 (hu_quote s (0 : Int32)) _ g1 hp
noncomputable def fn10_go_c5 (s : hs) : hs := (fn10_go_c10 (hu_element s (0 : Int32)))
def wp10_go_c5 (s : hs) : Prop := (wp10_go_c10 (hu_element s (0 : Int32)))
set_option maxRecDepth 100000 in
set_option maxHeartbeats 4000000 in
theorem rc10_go_5 (s : hs) (j1 : Option am_V) (g1 : am_loO 22 j1 = true) (hp : wp10_go_c5 s) : am_lf (am_mk kb10_go 0 0 22) [5, 10, 15, 20] (5, [some (.inr (.inl 0)), j1], [], (hm_w s), 0, 0) = some (none, (hm_w (fn10_go_c5 s))) := by
  unfold wp10_go_c5 at hp
  have i10 := @rc10_go_10
  refine am_lf_eq ?_
  generalize am_lf (am_mk kb10_go 0 0 22) [5, 10, 15, 20] = kt at i10 ⊢
  refine am_sp (w' := (hm_w (hu_element s (0 : Int32)))) (kp_R_0_element s (0 : Int32)) ?_
  have e : fn10_go_c5 s = fn10_go_c10 (hu_element s (0 : Int32)) := by
    rw [fn10_go_c5]
  rw [e]
  exact i10 (hu_element s (0 : Int32)) _ g1 hp
noncomputable def fn10_go (s : hs) (p0 : Int32) : hs := Classical.choose (⟨_, rfl⟩ : ∃ z : hs, z = (fn10_go_c5 (hu_context s p0)))
theorem fq10_go (s : hs) (p0 : Int32) : fn10_go s p0 = (fn10_go_c5 (hu_context s p0)) := Classical.choose_spec (⟨_, rfl⟩ : ∃ z : hs, z = (fn10_go_c5 (hu_context s p0)))
def wp10_go (s : hs) (p0 : Int32) : Prop := (wp10_go_c5 (hu_context s p0))
set_option maxRecDepth 100000 in
set_option maxHeartbeats 4000000 in
theorem re10_go (s : hs) (p0 : Int32) (hp : wp10_go s p0) : am_lf (am_mk kb10_go 0 0 22) [5, 10, 15, 20] (0, am_L0 [.inr (.inl 0), .inl p0] 2, [], (hm_w s), 0, 0) = some (none, (hm_w (fn10_go s p0))) := by
  unfold wp10_go at hp
  have i5 := @rc10_go_5
  refine am_lf_eq ?_
  generalize am_lf (am_mk kb10_go 0 0 22) [5, 10, 15, 20] = kt at i5 ⊢
  refine am_sp (w' := (hm_w (hu_context s p0))) (kp_R_0_context s p0) ?_
  have e : fn10_go s p0 = fn10_go_c5 (hu_context s p0) := by
    rw [fq10_go]
  rw [e]
  exact i5 (hu_context s p0) _ rfl hp
abbrev pr10_go : List am_V → List am_C → Prop := fun a w => ∃ (s : hs) (p0 : Int32), a = [.inr (.inl 0), .inl p0] ∧ w = (hm_w s) ∧ wp10_go s p0
noncomputable def fm10_go : am_M := fun a w => (fun (z : hs) => (none, (hm_w z), 0, 0)) (fn10_go (hm_st w 0) (am_i (am_an a 1)))
theorem fe10_go (s : hs) (p0 : Int32) : fm10_go [.inr (.inl 0), .inl p0] (hm_w s) = (none, (hm_w (fn10_go s p0)), 0, 0) := rfl
set_option maxRecDepth 100000 in
set_option maxHeartbeats 4000000 in
theorem rn10_go : ∀ (a : List am_V) (w : List am_C), pr10_go a w → ∃ nq, am_ev (am_mk kb10_go (fm10_go a w).2.2.1 (fm10_go a w).2.2.2 w.length) [5, 10, 15, 20] nq (0, am_L0 a 2, [], w, 0, 0) = some ((fm10_go a w).1, (fm10_go a w).2.1) := by
  rintro a w ⟨s, p0, rfl, rfl, hp⟩
  rw [fe10_go s p0]
  exact am_lf_ev (re10_go s p0 hp)
theorem rl10_go : ∀ (a : List am_V) (w : List am_C), pr10_go a w → a.length ≤ 2 := by
  rintro a w ⟨s, p0, rfl, rfl, hp⟩
  exact Nat.le_of_ble_eq_true rfl
theorem pa10_go : ∀ a w, pr10_go a w → ∃ q a' ci fs r, a = .inr (.inl q) :: a' ∧ w[q]? = some (.inr (ci, fs)) ∧ hn_cl[ci]? = some r ∧ r.1 = hn_R10 := by
  rintro a w ⟨s, p0, rfl, rfl, hp⟩
  exact ⟨0, _, 10, _, _, rfl, rfl, rfl, rfl⟩
set_option maxRecDepth 100000 in
set_option maxHeartbeats 4000000 in
theorem km10_go {l : Launch} {E : (Nat → Prop) → State → Prop} {D : va_G} {ou : Nat → Nat} {ca : Nat → ClassId} (hE : am_EC E) : hg_Met l E D ou ca hy10_go prog_12_method_22_code 2 none 0 pr10_go fm10_go := by
  refine am_met (B := kb10_go) (cuts := [5, 10, 15, 20]) (nt := 5) (by decide +kernel) rfl rfl (hg_tys_ok ca) ?_ (by decide) rl10_go ?_ rn10_go
  · exact fun t ht => List.mem_cons_of_mem _ (hg_arr t ht)
  · intro a w hp ad p e R s m args below meth c hR X hEs hnm
    have hR1 : 0 ≤ R.frames ∧ 0 ≤ R.locals := by rw [hR]; exact ⟨Nat.le_refl _, Nat.le_refl _⟩
    refine ⟨kd10_go_ok, fun index ci fi mode hq => kf10_ok X.2.2.2.2.1 (index, ci, fi, mode) (am_as_mem hq), fun index ci fs hq => (am_no hq).elim, fun x v hq => (am_no hq).elim, ?_, fun o t n f hq => (am_no hq).elim, rfl, rfl, by rw [hR]; exact Nat.le_refl _, by rw [hR]; exact Nat.le_refl _⟩
    intro pc sel n0 pre0 f0 hq
    exact (am_no hq).elim
noncomputable def ki10_isAmpersand : List (Nat × Option (List Nat) × Nat × (List am_V → List am_C → Prop) × am_M) := [(6, none, 2, pr10_ch, fm10_ch), (9, some [], 1, pr10_isWord, fm10_isWord), (17, none, 2, pr10_ch, fm10_ch), (33, none, 2, pr10_ch, fm10_ch)]
noncomputable def kb10_isAmpersand : am_B := (kd10_isAmpersand, am_as kf10, hn_ty, fun _ => none, fun _ => none, am_as ki10_isAmpersand, fun _ => none, 5, 3, (some .boolean))
noncomputable def fn10_isAmpersand_c4 : Nat → hs → Int32 → Int32
  | 0, _, _ => 0
  | fu + 1, s, v2 => (if (fn10_isWord (fn10_ch s v2)) = 0 then (if (fn10_ch s v2) = (35 : Int32) then (fn10_isAmpersand_c4 fu s (v2 + (1 : Int32))) else (if (fn10_ch s v2) = 0 then (0 : Int32) else (1 : Int32))) else (fn10_isAmpersand_c4 fu s (v2 + (1 : Int32))))
def wp10_isAmpersand_c4 : Nat → hs → Int32 → Prop
  | 0, _, _ => False
  | fu + 1, s, v2 => ((wp10_ch s v2) ∧ ((wp10_isWord (fn10_ch s v2)) ∧ (((fn10_isWord (fn10_ch s v2)) = 0 → ((wp10_ch s v2) ∧ (((fn10_ch s v2) = (35 : Int32) → (wp10_isAmpersand_c4 fu s (v2 + (1 : Int32)))) ∧ (¬ (fn10_ch s v2) = (35 : Int32) → (wp10_ch s v2))))) ∧ (¬ (fn10_isWord (fn10_ch s v2)) = 0 → (wp10_isAmpersand_c4 fu s (v2 + (1 : Int32)))))))
set_option maxRecDepth 100000 in
set_option maxHeartbeats 4000000 in
theorem rc10_isAmpersand_4 : ∀ (fu : Nat) (s : hs) (v2 : Int32) (j1 : Option am_V) (g1 : am_loO 22 j1 = true) , wp10_isAmpersand_c4 fu s v2 → am_lf (am_mk kb10_isAmpersand 0 0 22) [4] (4, [some (.inr (.inl 0)), j1, some (.inl v2)], [], (hm_w s), 0, 0) = some (some (.inl (fn10_isAmpersand_c4 fu s v2)), (hm_w s)) := by
  intro fu
  induction fu with
  | zero =>
    intro s v2 j1 g1 hp
    exact hp.elim
  | succ fu ih =>
    intro s v2 j1 g1 hp
    unfold wp10_isAmpersand_c4 at hp
    refine am_lf_eq ?_
    generalize am_lf (am_mk kb10_isAmpersand 0 0 22) [4] = kt at ih ⊢
    refine am_cx (pre := pr10_ch) (f := fm10_ch) (r := (some (.inl (fn10_ch s v2)), (hm_w s), 0, 0)) ?_ ?_ ?_ ?_
    · exact ⟨s, v2, rfl, rfl, hp.1⟩
    · exact fe10_ch s v2
    · exact (am_ac rfl (am_ac g1 (am_ac rfl am_a0)))
    refine am_cy (pre := pr10_isWord) (f := fm10_isWord) (a' := [.inl (fn10_ch s v2)]) (wc := []) (w' := (hm_w s)) (r := (some (.inl (fn10_isWord (fn10_ch s v2))), [], 0, 0)) ?_ ?_ ?_ ?_ ?_ ?_ ?_ ?_ ?_ ?_
    · exact am_sow0 _
    · rfl
    · rfl
    · exact am_sub0 _
    · exact ⟨(fn10_ch s v2), rfl, rfl, hp.2.1⟩
    · exact fe10_isWord (fn10_ch s v2)
    · exact rfl
    · rfl
    · exact am_mix0 _
    refine am_if (c := (fn10_isWord (fn10_ch s v2)) = 0) (fun h2 => ?_) (fun h2 => ?_)
    · have q2 := hp.2.2.1 h2
      refine am_cx (pre := pr10_ch) (f := fm10_ch) (r := (some (.inl (fn10_ch s v2)), (hm_w s), 0, 0)) ?_ ?_ ?_ ?_
      · exact ⟨s, v2, rfl, rfl, q2.1⟩
      · exact fe10_ch s v2
      · exact (am_ac rfl (am_ac g1 (am_ac rfl am_a0)))
      refine am_if (c := (fn10_ch s v2) = (35 : Int32)) (fun h3 => ?_) (fun h3 => ?_)
      · have q3 := q2.2.1 h3
        have e : fn10_isAmpersand_c4 (fu + 1) s v2 = fn10_isAmpersand_c4 fu s (v2 + (1 : Int32)) := by
          rw [fn10_isAmpersand_c4]
          rw [if_pos h2, if_pos h3]
        rw [e]
        exact ih s (v2 + (1 : Int32)) _ g1 q3
      · have q3 := q2.2.2 h3
        refine am_cx (pre := pr10_ch) (f := fm10_ch) (r := (some (.inl (fn10_ch s v2)), (hm_w s), 0, 0)) ?_ ?_ ?_ ?_
        · exact ⟨s, v2, rfl, rfl, q3⟩
        · exact fe10_ch s v2
        · exact (am_ac rfl (am_ac g1 (am_ac rfl am_a0)))
        refine am_if (c := (fn10_ch s v2) = 0) (fun h4 => ?_) (fun h4 => ?_)
        · have e : fn10_isAmpersand_c4 (fu + 1) s v2 = (0 : Int32) := by
            rw [fn10_isAmpersand_c4]
            rw [if_pos h2, if_neg h3, if_pos h4]
          rw [e] <;> rfl
        · have e : fn10_isAmpersand_c4 (fu + 1) s v2 = (1 : Int32) := by
            rw [fn10_isAmpersand_c4]
            rw [if_pos h2, if_neg h3, if_neg h4]
          rw [e] <;> rfl
    · have q2 := hp.2.2.2 h2
      have e : fn10_isAmpersand_c4 (fu + 1) s v2 = fn10_isAmpersand_c4 fu s (v2 + (1 : Int32)) := by
        rw [fn10_isAmpersand_c4]
        rw [if_neg h2]
      rw [e]
      exact ih s (v2 + (1 : Int32)) _ g1 q2
noncomputable def fn10_isAmpersand (s : hs) (p0 : Int32) : Int32 := Classical.choose (⟨_, rfl⟩ : ∃ z : Int32, z = (fn10_isAmpersand_c4 hg_fu s (p0 + (1 : Int32))))
theorem fq10_isAmpersand (s : hs) (p0 : Int32) : fn10_isAmpersand s p0 = (fn10_isAmpersand_c4 hg_fu s (p0 + (1 : Int32))) := Classical.choose_spec (⟨_, rfl⟩ : ∃ z : Int32, z = (fn10_isAmpersand_c4 hg_fu s (p0 + (1 : Int32))))
def wp10_isAmpersand (s : hs) (p0 : Int32) : Prop := (wp10_isAmpersand_c4 hg_fu s (p0 + (1 : Int32)))
set_option maxRecDepth 100000 in
set_option maxHeartbeats 4000000 in
theorem re10_isAmpersand (s : hs) (p0 : Int32) (hp : wp10_isAmpersand s p0) : am_lf (am_mk kb10_isAmpersand 0 0 22) [4] (0, am_L0 [.inr (.inl 0), .inl p0] 3, [], (hm_w s), 0, 0) = some (some (.inl (fn10_isAmpersand s p0)), (hm_w s)) := by
  unfold wp10_isAmpersand at hp
  have i4 := @rc10_isAmpersand_4
  refine am_lf_eq ?_
  generalize am_lf (am_mk kb10_isAmpersand 0 0 22) [4] = kt at i4 ⊢
  have e : fn10_isAmpersand s p0 = fn10_isAmpersand_c4 hg_fu s (p0 + (1 : Int32)) := by
    rw [fq10_isAmpersand]
  rw [e]
  exact i4 hg_fu s (p0 + (1 : Int32)) _ rfl hp
abbrev pr10_isAmpersand : List am_V → List am_C → Prop := fun a w => ∃ (s : hs) (p0 : Int32), a = [.inr (.inl 0), .inl p0] ∧ w = (hm_w s) ∧ wp10_isAmpersand s p0
noncomputable def fm10_isAmpersand : am_M := fun a w => (fun (z : Int32) => (some (.inl z), (hm_w (hm_st w 0)), 0, 0)) (fn10_isAmpersand (hm_st w 0) (am_i (am_an a 1)))
theorem fe10_isAmpersand (s : hs) (p0 : Int32) : fm10_isAmpersand [.inr (.inl 0), .inl p0] (hm_w s) = (some (.inl (fn10_isAmpersand s p0)), (hm_w s), 0, 0) := rfl
set_option maxRecDepth 100000 in
set_option maxHeartbeats 4000000 in
theorem rn10_isAmpersand : ∀ (a : List am_V) (w : List am_C), pr10_isAmpersand a w → ∃ nq, am_ev (am_mk kb10_isAmpersand (fm10_isAmpersand a w).2.2.1 (fm10_isAmpersand a w).2.2.2 w.length) [4] nq (0, am_L0 a 3, [], w, 0, 0) = some ((fm10_isAmpersand a w).1, (fm10_isAmpersand a w).2.1) := by
  rintro a w ⟨s, p0, rfl, rfl, hp⟩
  rw [fe10_isAmpersand s p0]
  exact am_lf_ev (re10_isAmpersand s p0 hp)
theorem rl10_isAmpersand : ∀ (a : List am_V) (w : List am_C), pr10_isAmpersand a w → a.length ≤ 3 := by
  rintro a w ⟨s, p0, rfl, rfl, hp⟩
  exact Nat.le_of_ble_eq_true rfl
theorem pa10_isAmpersand : ∀ a w, pr10_isAmpersand a w → ∃ q a' ci fs r, a = .inr (.inl q) :: a' ∧ w[q]? = some (.inr (ci, fs)) ∧ hn_cl[ci]? = some r ∧ r.1 = hn_R10 := by
  rintro a w ⟨s, p0, rfl, rfl, hp⟩
  exact ⟨0, _, 10, _, _, rfl, rfl, rfl, rfl⟩
set_option maxRecDepth 100000 in
set_option maxHeartbeats 4000000 in
theorem km10_isAmpersand {l : Launch} {E : (Nat → Prop) → State → Prop} {D : va_G} {ou : Nat → Nat} {ca : Nat → ClassId} (hE : am_EC E) : hg_Met l E D ou ca hy10_isAmpersand prog_12_method_23_code 3 (some .boolean) 2 pr10_isAmpersand fm10_isAmpersand := by
  refine am_met (B := kb10_isAmpersand) (cuts := [4]) (nt := 5) (by decide +kernel) rfl rfl (hg_tys_ok ca) ?_ (by decide) rl10_isAmpersand ?_ rn10_isAmpersand
  · exact fun t ht => List.mem_cons_of_mem _ (hg_arr t ht)
  · intro a w hp ad p e R s m args below meth c hR X hEs hnm
    have hR1 : 2 ≤ R.frames ∧ 80 ≤ R.locals := by rw [hR]; exact ⟨Nat.le_refl _, Nat.le_refl _⟩
    refine ⟨kd10_isAmpersand_ok, fun index ci fi mode hq => kf10_ok X.2.2.2.2.1 (index, ci, fi, mode) (am_as_mem hq), fun index ci fs hq => (am_no hq).elim, fun x v hq => (am_no hq).elim, ?_, fun o t n f hq => (am_no hq).elim, rfl, rfl, by rw [hR]; exact Nat.le_refl _, by rw [hR]; exact Nat.le_refl _⟩
    intro pc sel n0 pre0 f0 hq
    have hz : ∀ q ∈ ki10_isAmpersand, am_CK p l e R s m args below meth c D hn_cl (va_A (am_w ad ou ca w) s.heap.size) ou ca 3 q.1 q.2.2.1 q.2.2.2.1 q.2.2.2.2 := by
      refine am_allc (am_ck_V (n := 1) X hEs hE (km10_ch hE) (hg_good (gw_mem 1147 (by decide +kernel))) rfl (List.mem_cons_of_mem _ (gw_mem 76 (by decide +kernel))) (List.mem_cons_of_mem _ (gw_mem 1144 (by decide +kernel))) (List.mem_cons_of_mem _ (gw_mem 1146 (by decide +kernel))) (List.mem_cons_of_mem _ (gw_mem 21 (by decide +kernel))) pa10_ch (by decide +kernel) ⟨Nat.le_trans (by decide) hR1.1, Nat.le_trans (by decide) hR1.2⟩ (kd10_isAmpersand_ok (6, .invokevirtual 114, 3) (List.mem_of_getElem? (i := 6) rfl))) (am_allc (am_ck_S (n := 1) X hEs hE (km10_isWord hE) (hg_good (gw_mem 1154 (by decide +kernel))) rfl (List.mem_cons_of_mem _ (gw_mem 76 (by decide +kernel))) (List.mem_cons_of_mem _ (gw_mem 1152 (by decide +kernel))) (List.mem_cons_of_mem _ (gw_mem 1153 (by decide +kernel))) (by decide +kernel) ⟨Nat.le_trans (by decide) hR1.1, Nat.le_trans (by decide) hR1.2⟩ (kd10_isAmpersand_ok (9, .invokestatic 140, 3) (List.mem_of_getElem? (i := 7) rfl))) (am_allc (am_ck_V (n := 1) X hEs hE (km10_ch hE) (hg_good (gw_mem 1147 (by decide +kernel))) rfl (List.mem_cons_of_mem _ (gw_mem 76 (by decide +kernel))) (List.mem_cons_of_mem _ (gw_mem 1144 (by decide +kernel))) (List.mem_cons_of_mem _ (gw_mem 1146 (by decide +kernel))) (List.mem_cons_of_mem _ (gw_mem 21 (by decide +kernel))) pa10_ch (by decide +kernel) ⟨Nat.le_trans (by decide) hR1.1, Nat.le_trans (by decide) hR1.2⟩ (kd10_isAmpersand_ok (17, .invokevirtual 114, 3) (List.mem_of_getElem? (i := 11) rfl))) (am_allc (am_ck_V (n := 1) X hEs hE (km10_ch hE) (hg_good (gw_mem 1147 (by decide +kernel))) rfl (List.mem_cons_of_mem _ (gw_mem 76 (by decide +kernel))) (List.mem_cons_of_mem _ (gw_mem 1144 (by decide +kernel))) (List.mem_cons_of_mem _ (gw_mem 1146 (by decide +kernel))) (List.mem_cons_of_mem _ (gw_mem 21 (by decide +kernel))) pa10_ch (by decide +kernel) ⟨Nat.le_trans (by decide) hR1.1, Nat.le_trans (by decide) hR1.2⟩ (kd10_isAmpersand_ok (33, .invokevirtual 114, 3) (List.mem_of_getElem? (i := 18) rfl))) (am_all0))))
    exact hz _ (am_as_mem hq)
noncomputable def ki10_begins : List (Nat × Option (List Nat) × Nat × (List am_V → List am_C → Prop) × am_M) := [(2, none, 2, pr10_ch, fm10_ch), (14, none, 2, pr10_ch, fm10_ch)]
noncomputable def kb10_begins : am_B := (kd10_begins, am_as kf10, hn_ty, fun _ => none, fun _ => none, am_as ki10_begins, fun _ => none, 5, 3, (some .boolean))
noncomputable def fn10_begins (s : hs) (p0 : Int32) (p1 : Int32) : Int32 := Classical.choose (⟨_, rfl⟩ : ∃ z : Int32, z = (if (fn10_ch s p0) = (60 : Int32) then (if (fn10_ch s (p0 + (1 : Int32))) = p1 then (1 : Int32) else (0 : Int32)) else (0 : Int32)))
theorem fq10_begins (s : hs) (p0 : Int32) (p1 : Int32) : fn10_begins s p0 p1 = (if (fn10_ch s p0) = (60 : Int32) then (if (fn10_ch s (p0 + (1 : Int32))) = p1 then (1 : Int32) else (0 : Int32)) else (0 : Int32)) := Classical.choose_spec (⟨_, rfl⟩ : ∃ z : Int32, z = (if (fn10_ch s p0) = (60 : Int32) then (if (fn10_ch s (p0 + (1 : Int32))) = p1 then (1 : Int32) else (0 : Int32)) else (0 : Int32)))
def wp10_begins (s : hs) (p0 : Int32) (p1 : Int32) : Prop := ((wp10_ch s p0) ∧ (((fn10_ch s p0) = (60 : Int32) → (wp10_ch s (p0 + (1 : Int32)))) ∧ (¬ (fn10_ch s p0) = (60 : Int32) → True)))
set_option maxRecDepth 100000 in
set_option maxHeartbeats 4000000 in
theorem re10_begins (s : hs) (p0 : Int32) (p1 : Int32) (hp : wp10_begins s p0 p1) : am_lf (am_mk kb10_begins 0 0 22) [] (0, am_L0 [.inr (.inl 0), .inl p0, .inl p1] 3, [], (hm_w s), 0, 0) = some (some (.inl (fn10_begins s p0 p1)), (hm_w s)) := by
  unfold wp10_begins at hp
  refine am_lf_eq ?_
  generalize am_lf (am_mk kb10_begins 0 0 22) [] = kt
  refine am_cx (pre := pr10_ch) (f := fm10_ch) (r := (some (.inl (fn10_ch s p0)), (hm_w s), 0, 0)) ?_ ?_ ?_ ?_
  · exact ⟨s, p0, rfl, rfl, hp.1⟩
  · exact fe10_ch s p0
  · exact rfl
  refine am_if (c := (fn10_ch s p0) = (60 : Int32)) (fun h1 => ?_) (fun h1 => ?_)
  · have q1 := hp.2.1 h1
    refine am_cx (pre := pr10_ch) (f := fm10_ch) (r := (some (.inl (fn10_ch s (p0 + (1 : Int32)))), (hm_w s), 0, 0)) ?_ ?_ ?_ ?_
    · exact ⟨s, (p0 + (1 : Int32)), rfl, rfl, q1⟩
    · exact fe10_ch s (p0 + (1 : Int32))
    · exact rfl
    refine am_if (c := (fn10_ch s (p0 + (1 : Int32))) = p1) (fun h2 => ?_) (fun h2 => ?_)
    · have e : fn10_begins s p0 p1 = (1 : Int32) := by
        rw [fq10_begins]
        rw [if_pos h1, if_pos h2]
      rw [e] <;> rfl
    · have e : fn10_begins s p0 p1 = (0 : Int32) := by
        rw [fq10_begins]
        rw [if_pos h1, if_neg h2]
      rw [e] <;> rfl
  · have e : fn10_begins s p0 p1 = (0 : Int32) := by
      rw [fq10_begins]
      rw [if_neg h1]
    rw [e] <;> rfl
abbrev pr10_begins : List am_V → List am_C → Prop := fun a w => ∃ (s : hs) (p0 : Int32) (p1 : Int32), a = [.inr (.inl 0), .inl p0, .inl p1] ∧ w = (hm_w s) ∧ wp10_begins s p0 p1
noncomputable def fm10_begins : am_M := fun a w => (fun (z : Int32) => (some (.inl z), (hm_w (hm_st w 0)), 0, 0)) (fn10_begins (hm_st w 0) (am_i (am_an a 1)) (am_i (am_an a 2)))
theorem fe10_begins (s : hs) (p0 : Int32) (p1 : Int32) : fm10_begins [.inr (.inl 0), .inl p0, .inl p1] (hm_w s) = (some (.inl (fn10_begins s p0 p1)), (hm_w s), 0, 0) := rfl
set_option maxRecDepth 100000 in
set_option maxHeartbeats 4000000 in
theorem rn10_begins : ∀ (a : List am_V) (w : List am_C), pr10_begins a w → ∃ nq, am_ev (am_mk kb10_begins (fm10_begins a w).2.2.1 (fm10_begins a w).2.2.2 w.length) [] nq (0, am_L0 a 3, [], w, 0, 0) = some ((fm10_begins a w).1, (fm10_begins a w).2.1) := by
  rintro a w ⟨s, p0, p1, rfl, rfl, hp⟩
  rw [fe10_begins s p0 p1]
  exact am_lf_ev (re10_begins s p0 p1 hp)
theorem rl10_begins : ∀ (a : List am_V) (w : List am_C), pr10_begins a w → a.length ≤ 3 := by
  rintro a w ⟨s, p0, p1, rfl, rfl, hp⟩
  exact Nat.le_of_ble_eq_true rfl
theorem pa10_begins : ∀ a w, pr10_begins a w → ∃ q a' ci fs r, a = .inr (.inl q) :: a' ∧ w[q]? = some (.inr (ci, fs)) ∧ hn_cl[ci]? = some r ∧ r.1 = hn_R10 := by
  rintro a w ⟨s, p0, p1, rfl, rfl, hp⟩
  exact ⟨0, _, 10, _, _, rfl, rfl, rfl, rfl⟩
set_option maxRecDepth 100000 in
set_option maxHeartbeats 4000000 in
theorem km10_begins {l : Launch} {E : (Nat → Prop) → State → Prop} {D : va_G} {ou : Nat → Nat} {ca : Nat → ClassId} (hE : am_EC E) : hg_Met l E D ou ca hy10_begins prog_12_method_24_code 3 (some .boolean) 1 pr10_begins fm10_begins := by
  refine am_met (B := kb10_begins) (cuts := []) (nt := 5) (by decide +kernel) rfl rfl (hg_tys_ok ca) ?_ (by decide) rl10_begins ?_ rn10_begins
  · exact fun t ht => List.mem_cons_of_mem _ (hg_arr t ht)
  · intro a w hp ad p e R s m args below meth c hR X hEs hnm
    have hR1 : 1 ≤ R.frames ∧ 40 ≤ R.locals := by rw [hR]; exact ⟨Nat.le_refl _, Nat.le_refl _⟩
    refine ⟨kd10_begins_ok, fun index ci fi mode hq => kf10_ok X.2.2.2.2.1 (index, ci, fi, mode) (am_as_mem hq), fun index ci fs hq => (am_no hq).elim, fun x v hq => (am_no hq).elim, ?_, fun o t n f hq => (am_no hq).elim, rfl, rfl, by rw [hR]; exact Nat.le_refl _, by rw [hR]; exact Nat.le_refl _⟩
    intro pc sel n0 pre0 f0 hq
    have hz : ∀ q ∈ ki10_begins, am_CK p l e R s m args below meth c D hn_cl (va_A (am_w ad ou ca w) s.heap.size) ou ca 3 q.1 q.2.2.1 q.2.2.2.1 q.2.2.2.2 := by
      refine am_allc (am_ck_V (n := 1) X hEs hE (km10_ch hE) (hg_good (gw_mem 1147 (by decide +kernel))) rfl (List.mem_cons_of_mem _ (gw_mem 76 (by decide +kernel))) (List.mem_cons_of_mem _ (gw_mem 1144 (by decide +kernel))) (List.mem_cons_of_mem _ (gw_mem 1146 (by decide +kernel))) (List.mem_cons_of_mem _ (gw_mem 21 (by decide +kernel))) pa10_ch (by decide +kernel) ⟨Nat.le_trans (by decide) hR1.1, Nat.le_trans (by decide) hR1.2⟩ (kd10_begins_ok (2, .invokevirtual 114, 3) (List.mem_of_getElem? (i := 2) rfl))) (am_allc (am_ck_V (n := 1) X hEs hE (km10_ch hE) (hg_good (gw_mem 1147 (by decide +kernel))) rfl (List.mem_cons_of_mem _ (gw_mem 76 (by decide +kernel))) (List.mem_cons_of_mem _ (gw_mem 1144 (by decide +kernel))) (List.mem_cons_of_mem _ (gw_mem 1146 (by decide +kernel))) (List.mem_cons_of_mem _ (gw_mem 21 (by decide +kernel))) pa10_ch (by decide +kernel) ⟨Nat.le_trans (by decide) hR1.1, Nat.le_trans (by decide) hR1.2⟩ (kd10_begins_ok (14, .invokevirtual 114, 3) (List.mem_of_getElem? (i := 9) rfl))) (am_all0))
    exact hz _ (am_as_mem hq)
