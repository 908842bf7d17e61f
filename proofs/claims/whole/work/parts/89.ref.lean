noncomputable def ki10_build : List (Nat × Option (List Nat) × Nat × (List am_V → List am_C → Prop) × am_M) := [(1, none, 1, pr10_findSymbols, fm10_findSymbols), (6, none, 2, pr10_go, fm10_go), (46, none, 2, pr10_piece, fm10_piece), (54, none, 2, pr10_readSymbol, fm10_readSymbol)]
noncomputable def kb10_build : am_B := (kd10_build, am_as kf10, hn_ty, fun _ => none, fun _ => none, am_as ki10_build, fun _ => none, 5, 4, (some .boolean))
noncomputable def fn10_build_c138 (s : hs) (v3 : Int32) (u0 : Int32) : Int32 × hs := (v3, (hu_fault s u0))
def wp10_build_c138 (s : hs) (v3 : Int32) (u0 : Int32) : Prop := (am_fit .boolean (.inl v3) = true)
set_option maxRecDepth 100000 in
set_option maxHeartbeats 4000000 in
theorem rc10_build_138 (s : hs) (v3 : Int32) (u0 : Int32) (j1 : Option am_V) (j2 : Option am_V) (g1 : am_loO 22 j1 = true) (g2 : am_loO 22 j2 = true) (hp : wp10_build_c138 s v3 u0) : am_lf (am_mk kb10_build 0 0 22) [4, 9, 14, 19, 23, 83, 105, 106, 112, 138] (138, [some (.inr (.inl 0)), j1, j2, some (.inl v3)], [.inl u0, .inr (.inl 0)], (hm_w s), 0, 0) = some (some (.inl ((fn10_build_c138 s v3 u0).1)), (hm_w ((fn10_build_c138 s v3 u0).2))) := by
  unfold wp10_build_c138 at hp
  refine am_lf_eq ?_
  generalize am_lf (am_mk kb10_build 0 0 22) [4, 9, 14, 19, 23, 83, 105, 106, 112, 138] = kt
  refine am_sp (w' := (hm_w (hu_fault s u0))) (kp_R_0_fault s u0) ?_
  refine am_ci (c := am_fit .boolean (.inl v3) = true) hp ?_
  have e : fn10_build_c138 s v3 u0 = (v3, (hu_fault s u0)) := by
    rw [fn10_build_c138]
  rw [e] <;> rfl
noncomputable def fn10_build_c112 (s : hs) (v1 : Int32) (v2 : Int32) (v3 : Int32) : Int32 × hs := (if v3 = 0 then (if v2 = 0 then (fn10_build_c138 s v3 ((hm_place s) (v1).toNatClampNeg)) else (fn10_build_c138 s v3 (hm_length s))) else (fn10_build_c138 s v3 (-1 : Int32)))
def wp10_build_c112 (s : hs) (v1 : Int32) (v2 : Int32) (v3 : Int32) : Prop := ((v3 = 0 → ((v2 = 0 → (am_inb v1 240 = true ∧ (wp10_build_c138 s v3 ((hm_place s) (v1).toNatClampNeg)))) ∧ (¬ v2 = 0 → (wp10_build_c138 s v3 (hm_length s))))) ∧ (¬ v3 = 0 → (wp10_build_c138 s v3 (-1 : Int32))))
set_option maxRecDepth 100000 in
set_option maxHeartbeats 4000000 in
theorem rc10_build_112 (s : hs) (v1 : Int32) (v2 : Int32) (v3 : Int32) (hp : wp10_build_c112 s v1 v2 v3) : am_lf (am_mk kb10_build 0 0 22) [4, 9, 14, 19, 23, 83, 105, 106, 112, 138] (112, [some (.inr (.inl 0)), some (.inl v1), some (.inl v2), some (.inl v3)], [], (hm_w s), 0, 0) = some (some (.inl ((fn10_build_c112 s v1 v2 v3).1)), (hm_w ((fn10_build_c112 s v1 v2 v3).2))) := by
  unfold wp10_build_c112 at hp
  have i138 := @rc10_build_138
  refine am_lf_eq ?_
  generalize am_lf (am_mk kb10_build 0 0 22) [4, 9, 14, 19, 23, 83, 105, 106, 112, 138] = kt at i138 ⊢
  refine am_if (c := v3 = 0) (fun h1 => ?_) (fun h1 => ?_)
  · have q1 := hp.1 h1
    refine am_if (c := v2 = 0) (fun h2 => ?_) (fun h2 => ?_)
    · have q2 := q1.1 h2
      refine am_ci (c := am_inb v1 240 = true) q2.1 ?_
      have e : fn10_build_c112 s v1 v2 v3 = fn10_build_c138 s v3 ((hm_place s) (v1).toNatClampNeg) := by
        rw [fn10_build_c112]
        rw [if_pos h1, if_pos h2]
      rw [e]
      exact i138 s v3 ((hm_place s) (v1).toNatClampNeg) _ _ rfl rfl q2.2
    · have q2 := q1.2 h2
      have e : fn10_build_c112 s v1 v2 v3 = fn10_build_c138 s v3 (hm_length s) := by
        rw [fn10_build_c112]
        rw [if_pos h1, if_neg h2]
      rw [e]
      exact i138 s v3 (hm_length s) _ _ rfl rfl q2
  · have q1 := hp.2 h1
    have e : fn10_build_c112 s v1 v2 v3 = fn10_build_c138 s v3 (-1 : Int32) := by
      rw [fn10_build_c112]
      rw [if_neg h1]
    rw [e]
    exact i138 s v3 (-1 : Int32) _ _ rfl rfl q1
noncomputable def fn10_build_c106 (s : hs) (v1 : Int32) (v2 : Int32) (u0 : Int32) : Int32 × hs := (fn10_build_c112 (hu_compiled s u0) v1 v2 u0)
def wp10_build_c106 (s : hs) (v1 : Int32) (v2 : Int32) (u0 : Int32) : Prop := (am_fit .boolean (.inl u0) = true ∧ (wp10_build_c112 (hu_compiled s u0) v1 v2 u0))
set_option maxRecDepth 100000 in
set_option maxHeartbeats 4000000 in
theorem rc10_build_106 (s : hs) (v1 : Int32) (v2 : Int32) (u0 : Int32) (j3 : Option am_V) (g3 : am_loO 22 j3 = true) (hp : wp10_build_c106 s v1 v2 u0) : am_lf (am_mk kb10_build 0 0 22) [4, 9, 14, 19, 23, 83, 105, 106, 112, 138] (106, [some (.inr (.inl 0)), some (.inl v1), some (.inl v2), j3], [.inl u0], (hm_w s), 0, 0) = some (some (.inl ((fn10_build_c106 s v1 v2 u0).1)), (hm_w ((fn10_build_c106 s v1 v2 u0).2))) := by
  unfold wp10_build_c106 at hp
  have i112 := @rc10_build_112
  refine am_lf_eq ?_
  generalize am_lf (am_mk kb10_build 0 0 22) [4, 9, 14, 19, 23, 83, 105, 106, 112, 138] = kt at i112 ⊢
  refine am_ci (c := am_fit .boolean (.inl u0) = true) hp.1 ?_
  refine am_sp (w' := (hm_w (hu_compiled s u0))) (kp_R_0_compiled s u0) ?_
  have e : fn10_build_c106 s v1 v2 u0 = fn10_build_c112 (hu_compiled s u0) v1 v2 u0 := by
    rw [fn10_build_c106]
  rw [e]
  exact i112 (hu_compiled s u0) v1 v2 u0  hp.2
noncomputable def fn10_build_c105 (s : hs) (v1 : Int32) (v2 : Int32) : Int32 × hs := (fn10_build_c106 s v1 v2 (0 : Int32))
def wp10_build_c105 (s : hs) (v1 : Int32) (v2 : Int32) : Prop := (wp10_build_c106 s v1 v2 (0 : Int32))
set_option maxRecDepth 100000 in
set_option maxHeartbeats 4000000 in
theorem rc10_build_105 (s : hs) (v1 : Int32) (v2 : Int32) (j3 : Option am_V) (g3 : am_loO 22 j3 = true) (hp : wp10_build_c105 s v1 v2) : am_lf (am_mk kb10_build 0 0 22) [4, 9, 14, 19, 23, 83, 105, 106, 112, 138] (105, [some (.inr (.inl 0)), some (.inl v1), some (.inl v2), j3], [], (hm_w s), 0, 0) = some (some (.inl ((fn10_build_c105 s v1 v2).1)), (hm_w ((fn10_build_c105 s v1 v2).2))) := by
  unfold wp10_build_c105 at hp
  have i106 := @rc10_build_106
  refine am_lf_eq ?_
  generalize am_lf (am_mk kb10_build 0 0 22) [4, 9, 14, 19, 23, 83, 105, 106, 112, 138] = kt at i106 ⊢
  have e : fn10_build_c105 s v1 v2 = fn10_build_c106 s v1 v2 (0 : Int32) := by
    rw [fn10_build_c105]
  rw [e]
  exact i106 s v1 v2 (0 : Int32) _ g3 hp
noncomputable def fn10_build_c83 (s : hs) (v1 : Int32) (v2 : Int32) : Int32 × hs := (if v2 = 0 then (fn10_build_c105 s v1 v2) else (if (hm_open s) = 0 then (if (hm_context s) = 0 then (fn10_build_c106 s v1 v2 (1 : Int32)) else (fn10_build_c105 s v1 v2)) else (fn10_build_c105 s v1 v2)))
def wp10_build_c83 (s : hs) (v1 : Int32) (v2 : Int32) : Prop := ((v2 = 0 → (wp10_build_c105 s v1 v2)) ∧ (¬ v2 = 0 → (((hm_open s) = 0 → (((hm_context s) = 0 → (wp10_build_c106 s v1 v2 (1 : Int32))) ∧ (¬ (hm_context s) = 0 → (wp10_build_c105 s v1 v2)))) ∧ (¬ (hm_open s) = 0 → (wp10_build_c105 s v1 v2)))))
set_option maxRecDepth 100000 in
set_option maxHeartbeats 4000000 in
theorem rc10_build_83 (s : hs) (v1 : Int32) (v2 : Int32) (j3 : Option am_V) (g3 : am_loO 22 j3 = true) (hp : wp10_build_c83 s v1 v2) : am_lf (am_mk kb10_build 0 0 22) [4, 9, 14, 19, 23, 83, 105, 106, 112, 138] (83, [some (.inr (.inl 0)), some (.inl v1), some (.inl v2), j3], [], (hm_w s), 0, 0) = some (some (.inl ((fn10_build_c83 s v1 v2).1)), (hm_w ((fn10_build_c83 s v1 v2).2))) := by
  unfold wp10_build_c83 at hp
  have i105 := @rc10_build_105
  have i106 := @rc10_build_106
  refine am_lf_eq ?_
  generalize am_lf (am_mk kb10_build 0 0 22) [4, 9, 14, 19, 23, 83, 105, 106, 112, 138] = kt at i105 i106 ⊢
  refine am_if (c := v2 = 0) (fun h1 => ?_) (fun h1 => ?_)
  · have q1 := hp.1 h1
    have e : fn10_build_c83 s v1 v2 = fn10_build_c105 s v1 v2 := by
      rw [fn10_build_c83]
      rw [if_pos h1]
    rw [e]
    exact i105 s v1 v2 _ g3 q1
  · have q1 := hp.2 h1
    refine am_if (c := (hm_open s) = 0) (fun h2 => ?_) (fun h2 => ?_)
    · have q2 := q1.1 h2
      refine am_if (c := (hm_context s) = 0) (fun h3 => ?_) (fun h3 => ?_)
      · have q3 := q2.1 h3
        have e : fn10_build_c83 s v1 v2 = fn10_build_c106 s v1 v2 (1 : Int32) := by
          rw [fn10_build_c83]
          rw [if_neg h1, if_pos h2, if_pos h3]
        rw [e]
        exact i106 s v1 v2 (1 : Int32) _ g3 q3
      · have q3 := q2.2 h3
        have e : fn10_build_c83 s v1 v2 = fn10_build_c105 s v1 v2 := by
          rw [fn10_build_c83]
          rw [if_neg h1, if_pos h2, if_neg h3]
        rw [e]
        exact i105 s v1 v2 _ g3 q3
    · have q2 := q1.2 h2
      have e : fn10_build_c83 s v1 v2 = fn10_build_c105 s v1 v2 := by
        rw [fn10_build_c83]
        rw [if_neg h1, if_neg h2]
      rw [e]
      exact i105 s v1 v2 _ g3 q2
noncomputable def fn10_build_c23 : Nat → hs → Int32 → Int32 → Int32 × hs
  | 0, s, _, _ => (0, s)
  | fu + 1, s, v1, v2 => (if (hm_symbols s) ≤ v1 then (fn10_build_c83 s v1 v2) else (if v2 = 0 then (fn10_build_c83 s v1 v2) else (if ((hm_sort s) (v1).toNatClampNeg) = 0 then (if (fn10_piece s v1).1 ≤ 0 then (fn10_build_c23 fu ((fn10_piece s v1).2) (v1 + (fn10_piece s v1).1) (0 : Int32)) else (fn10_build_c23 fu ((fn10_piece s v1).2) (v1 + (fn10_piece s v1).1) (1 : Int32))) else (if (fn10_readSymbol s v1).1 = 0 then (fn10_build_c23 fu ((fn10_readSymbol s v1).2) (v1 + (0 : Int32)) (0 : Int32)) else (fn10_build_c23 fu ((fn10_readSymbol s v1).2) (v1 + (1 : Int32)) (1 : Int32))))))
def wp10_build_c23 : Nat → hs → Int32 → Int32 → Prop
  | 0, _, _, _ => False
  | fu + 1, s, v1, v2 => (((hm_symbols s) ≤ v1 → (wp10_build_c83 s v1 v2)) ∧ (¬ (hm_symbols s) ≤ v1 → ((v2 = 0 → (wp10_build_c83 s v1 v2)) ∧ (¬ v2 = 0 → (am_inb v1 240 = true ∧ ((((hm_sort s) (v1).toNatClampNeg) = 0 → ((wp10_piece s v1) ∧ (((fn10_piece s v1).1 ≤ 0 → (wp10_build_c23 fu ((fn10_piece s v1).2) (v1 + (fn10_piece s v1).1) (0 : Int32))) ∧ (¬ (fn10_piece s v1).1 ≤ 0 → (wp10_build_c23 fu ((fn10_piece s v1).2) (v1 + (fn10_piece s v1).1) (1 : Int32)))))) ∧ (¬ ((hm_sort s) (v1).toNatClampNeg) = 0 → ((wp10_readSymbol s v1) ∧ (((fn10_readSymbol s v1).1 = 0 → (wp10_build_c23 fu ((fn10_readSymbol s v1).2) (v1 + (0 : Int32)) (0 : Int32))) ∧ (¬ (fn10_readSymbol s v1).1 = 0 → (wp10_build_c23 fu ((fn10_readSymbol s v1).2) (v1 + (1 : Int32)) (1 : Int32))))))))))))
set_option maxRecDepth 100000 in
set_option maxHeartbeats 4000000 in
theorem rc10_build_23 : ∀ (fu : Nat) (s : hs) (v1 : Int32) (v2 : Int32) (j3 : Option am_V) (g3 : am_loO 22 j3 = true) , wp10_build_c23 fu s v1 v2 → am_lf (am_mk kb10_build 0 0 22) [4, 9, 14, 19, 23, 83, 105, 106, 112, 138] (23, [some (.inr (.inl 0)), some (.inl v1), some (.inl v2), j3], [], (hm_w s), 0, 0) = some (some (.inl ((fn10_build_c23 fu s v1 v2).1)), (hm_w ((fn10_build_c23 fu s v1 v2).2))) := by
  intro fu
  induction fu with
  | zero =>
    intro s v1 v2 j3 g3 hp
    exact hp.elim
  | succ fu ih =>
    intro s v1 v2 j3 g3 hp
    unfold wp10_build_c23 at hp
    have i83 := @rc10_build_83
    refine am_lf_eq ?_
    generalize am_lf (am_mk kb10_build 0 0 22) [4, 9, 14, 19, 23, 83, 105, 106, 112, 138] = kt at i83 ih ⊢
    refine am_if (c := (hm_symbols s) ≤ v1) (fun h2 => ?_) (fun h2 => ?_)
    · have q2 := hp.1 h2
      have e : fn10_build_c23 (fu + 1) s v1 v2 = fn10_build_c83 s v1 v2 := by
        rw [fn10_build_c23]
        rw [if_pos h2]
      rw [e]
      exact i83 s v1 v2 _ g3 q2
    · have q2 := hp.2 h2
      refine am_if (c := v2 = 0) (fun h3 => ?_) (fun h3 => ?_)
      · have q3 := q2.1 h3
        have e : fn10_build_c23 (fu + 1) s v1 v2 = fn10_build_c83 s v1 v2 := by
          rw [fn10_build_c23]
          rw [if_neg h2, if_pos h3]
        rw [e]
        exact i83 s v1 v2 _ g3 q3
      · have q3 := q2.2 h3
        refine am_ci (c := am_inb v1 240 = true) q3.1 ?_
        refine am_if (c := ((hm_sort s) (v1).toNatClampNeg) = 0) (fun h4 => ?_) (fun h4 => ?_)
        · have q4 := q3.2.1 h4
          refine am_cx (pre := pr10_piece) (f := fm10_piece) (r := (some (.inl ((fn10_piece s v1).1)), (hm_w ((fn10_piece s v1).2)), 0, 0)) ?_ ?_ ?_ ?_
          · exact ⟨s, v1, rfl, rfl, q4.1⟩
          · exact fe10_piece s v1
          · exact (am_ac rfl (am_ac rfl (am_ac rfl (am_ac g3 am_a0))))
          refine am_if (c := (fn10_piece s v1).1 ≤ 0) (fun h5 => ?_) (fun h5 => ?_)
          · have q5 := q4.2.1 h5
            have e : fn10_build_c23 (fu + 1) s v1 v2 = fn10_build_c23 fu ((fn10_piece s v1).2) (v1 + (fn10_piece s v1).1) (0 : Int32) := by
              rw [fn10_build_c23]
              rw [if_neg h2, if_neg h3, if_pos h4, if_pos h5]
            rw [e]
            exact ih ((fn10_piece s v1).2) (v1 + (fn10_piece s v1).1) (0 : Int32) _ rfl q5
          · have q5 := q4.2.2 h5
            have e : fn10_build_c23 (fu + 1) s v1 v2 = fn10_build_c23 fu ((fn10_piece s v1).2) (v1 + (fn10_piece s v1).1) (1 : Int32) := by
              rw [fn10_build_c23]
              rw [if_neg h2, if_neg h3, if_pos h4, if_neg h5]
            rw [e]
            exact ih ((fn10_piece s v1).2) (v1 + (fn10_piece s v1).1) (1 : Int32) _ rfl q5
        · have q4 := q3.2.2 h4
          refine am_cx (pre := pr10_readSymbol) (f := fm10_readSymbol) (r := (some (.inl ((fn10_readSymbol s v1).1)), (hm_w ((fn10_readSymbol s v1).2)), 0, 0)) ?_ ?_ ?_ ?_
          · exact ⟨s, v1, rfl, rfl, q4.1⟩
          · exact fe10_readSymbol s v1
          · exact (am_ac rfl (am_ac rfl (am_ac rfl (am_ac g3 am_a0))))
          refine am_if (c := (fn10_readSymbol s v1).1 = 0) (fun h5 => ?_) (fun h5 => ?_)
          · have q5 := q4.2.1 h5
            have e : fn10_build_c23 (fu + 1) s v1 v2 = fn10_build_c23 fu ((fn10_readSymbol s v1).2) (v1 + (0 : Int32)) (0 : Int32) := by
              rw [fn10_build_c23]
              rw [if_neg h2, if_neg h3, if_neg h4, if_pos h5]
            rw [e]
            exact ih ((fn10_readSymbol s v1).2) (v1 + (0 : Int32)) (0 : Int32) _ rfl q5
          · have q5 := q4.2.2 h5
            have e : fn10_build_c23 (fu + 1) s v1 v2 = fn10_build_c23 fu ((fn10_readSymbol s v1).2) (v1 + (1 : Int32)) (1 : Int32) := by
              rw [fn10_build_c23]
              rw [if_neg h2, if_neg h3, if_neg h4, if_neg h5]
            rw [e]
            exact ih ((fn10_readSymbol s v1).2) (v1 + (1 : Int32)) (1 : Int32) _ rfl q5
noncomputable def fn10_build_c19 (s : hs) : Int32 × hs := (fn10_build_c23 hg_fu s (0 : Int32) (1 : Int32))
def wp10_build_c19 (s : hs) : Prop := (wp10_build_c23 hg_fu s (0 : Int32) (1 : Int32))
set_option maxRecDepth 100000 in
set_option maxHeartbeats 4000000 in
theorem rc10_build_19 (s : hs) (j1 : Option am_V) (j2 : Option am_V) (j3 : Option am_V) (g1 : am_loO 22 j1 = true) (g2 : am_loO 22 j2 = true) (g3 : am_loO 22 j3 = true) (hp : wp10_build_c19 s) : am_lf (am_mk kb10_build 0 0 22) [4, 9, 14, 19, 23, 83, 105, 106, 112, 138] (19, [some (.inr (.inl 0)), j1, j2, j3], [], (hm_w s), 0, 0) = some (some (.inl ((fn10_build_c19 s).1)), (hm_w ((fn10_build_c19 s).2))) := by
  unfold wp10_build_c19 at hp
  have i23 := @rc10_build_23
  refine am_lf_eq ?_
  generalize am_lf (am_mk kb10_build 0 0 22) [4, 9, 14, 19, 23, 83, 105, 106, 112, 138] = kt at i23 ⊢
  have e : fn10_build_c19 s = fn10_build_c23 hg_fu s (0 : Int32) (1 : Int32) := by
    rw [fn10_build_c19]
  rw [e]
  exact i23 hg_fu s (0 : Int32) (1 : Int32) _ g3 hp
noncomputable def fn10_build_c14 (s : hs) : Int32 × hs := (fn10_build_c19 (hu_holes s (0 : Int32)))
def wp10_build_c14 (s : hs) : Prop := (wp10_build_c19 (hu_holes s (0 : Int32)))
set_option maxRecDepth 100000 in
set_option maxHeartbeats 4000000 in
theorem rc10_build_14 (s : hs) (j1 : Option am_V) (j2 : Option am_V) (j3 : Option am_V) (g1 : am_loO 22 j1 = true) (g2 : am_loO 22 j2 = true) (g3 : am_loO 22 j3 = true) (hp : wp10_build_c14 s) : am_lf (am_mk kb10_build 0 0 22) [4, 9, 14, 19, 23, 83, 105, 106, 112, 138] (14, [some (.inr (.inl 0)), j1, j2, j3], [], (hm_w s), 0, 0) = some (some (.inl ((fn10_build_c14 s).1)), (hm_w ((fn10_build_c14 s).2))) := by
  unfold wp10_build_c14 at hp
  have i19 := @rc10_build_19
  refine am_lf_eq ?_
  generalize am_lf (am_mk kb10_build 0 0 22) [4, 9, 14, 19, 23, 83, 105, 106, 112, 138] = kt at i19 ⊢
  refine am_sp (w' := (hm_w (hu_holes s (0 : Int32)))) (kp_R_0_holes s (0 : Int32)) ?_
  have e : fn10_build_c14 s = fn10_build_c19 (hu_holes s (0 : Int32)) := by
    rw [fn10_build_c14]
  rw [e]
  exact i19 (hu_holes s (0 : Int32)) _ _ _ g1 g2 g3 hp
noncomputable def fn10_build_c9 (s : hs) : Int32 × hs := (fn10_build_c14 (hu_open s (0 : Int32)))
def wp10_build_c9 (s : hs) : Prop := (wp10_build_c14 (hu_open s (0 : Int32)))
set_option maxRecDepth 100000 in
set_option maxHeartbeats 4000000 in
theorem rc10_build_9 (s : hs) (j1 : Option am_V) (j2 : Option am_V) (j3 : Option am_V) (g1 : am_loO 22 j1 = true) (g2 : am_loO 22 j2 = true) (g3 : am_loO 22 j3 = true) (hp : wp10_build_c9 s) : am_lf (am_mk kb10_build 0 0 22) [4, 9, 14, 19, 23, 83, 105, 106, 112, 138] (9, [some (.inr (.inl 0)), j1, j2, j3], [], (hm_w s), 0, 0) = some (some (.inl ((fn10_build_c9 s).1)), (hm_w ((fn10_build_c9 s).2))) := by
  unfold wp10_build_c9 at hp
  have i14 := @rc10_build_14
  refine am_lf_eq ?_
  generalize am_lf (am_mk kb10_build 0 0 22) [4, 9, 14, 19, 23, 83, 105, 106, 112, 138] = kt at i14 ⊢
  refine am_sp (w' := (hm_w (hu_open s (0 : Int32)))) (kp_R_0_open s (0 : Int32)) ?_
  have e : fn10_build_c9 s = fn10_build_c14 (hu_open s (0 : Int32)) := by
    rw [fn10_build_c9]
  rw [e]
  exact i14 (hu_open s (0 : Int32)) _ _ _ g1 g2 g3 hp
noncomputable def fn10_build_c4 (s : hs) : Int32 × hs := (fn10_build_c9 (fn10_go s (0 : Int32)))
def wp10_build_c4 (s : hs) : Prop := ((wp10_go s (0 : Int32)) ∧ (wp10_build_c9 (fn10_go s (0 : Int32))))
set_option maxRecDepth 100000 in
set_option maxHeartbeats 4000000 in
theorem rc10_build_4 (s : hs) (j1 : Option am_V) (j2 : Option am_V) (j3 : Option am_V) (g1 : am_loO 22 j1 = true) (g2 : am_loO 22 j2 = true) (g3 : am_loO 22 j3 = true) (hp : wp10_build_c4 s) : am_lf (am_mk kb10_build 0 0 22) [4, 9, 14, 19, 23, 83, 105, 106, 112, 138] (4, [some (.inr (.inl 0)), j1, j2, j3], [], (hm_w s), 0, 0) = some (some (.inl ((fn10_build_c4 s).1)), (hm_w ((fn10_build_c4 s).2))) := by
  unfold wp10_build_c4 at hp
  have i9 := @rc10_build_9
  refine am_lf_eq ?_
  generalize am_lf (am_mk kb10_build 0 0 22) [4, 9, 14, 19, 23, 83, 105, 106, 112, 138] = kt at i9 ⊢
  refine am_cx (pre := pr10_go) (f := fm10_go) (r := (none, (hm_w (fn10_go s (0 : Int32))), 0, 0)) ?_ ?_ ?_ ?_
  · exact ⟨s, (0 : Int32), rfl, rfl, hp.1⟩
  · exact fe10_go s (0 : Int32)
  · exact (am_ac rfl (am_ac g1 (am_ac g2 (am_ac g3 am_a0))))
  have e : fn10_build_c4 s = fn10_build_c9 (fn10_go s (0 : Int32)) := by
    rw [fn10_build_c4]
  rw [e]
  exact i9 (fn10_go s (0 : Int32)) _ _ _ g1 g2 g3 hp.2
noncomputable def fn10_build (s : hs) : Int32 × hs := Classical.choose (⟨_, rfl⟩ : ∃ z : Int32 × hs, z = (fn10_build_c4 (fn10_findSymbols s)))
theorem fq10_build (s : hs) : fn10_build s = (fn10_build_c4 (fn10_findSymbols s)) := Classical.choose_spec (⟨_, rfl⟩ : ∃ z : Int32 × hs, z = (fn10_build_c4 (fn10_findSymbols s)))
def wp10_build (s : hs) : Prop := ((wp10_findSymbols s) ∧ (wp10_build_c4 (fn10_findSymbols s)))
set_option maxRecDepth 100000 in
set_option maxHeartbeats 4000000 in
theorem re10_build (s : hs) (hp : wp10_build s) : am_lf (am_mk kb10_build 0 0 22) [4, 9, 14, 19, 23, 83, 105, 106, 112, 138] (0, am_L0 [.inr (.inl 0)] 4, [], (hm_w s), 0, 0) = some (some (.inl ((fn10_build s).1)), (hm_w ((fn10_build s).2))) := by
  unfold wp10_build at hp
  have i4 := @rc10_build_4
  refine am_lf_eq ?_
  generalize am_lf (am_mk kb10_build 0 0 22) [4, 9, 14, 19, 23, 83, 105, 106, 112, 138] = kt at i4 ⊢
  refine am_cx (pre := pr10_findSymbols) (f := fm10_findSymbols) (r := (none, (hm_w (fn10_findSymbols s)), 0, 0)) ?_ ?_ ?_ ?_
  · exact ⟨s, rfl, rfl, hp.1⟩
  · exact fe10_findSymbols s
  · exact rfl
  have e : fn10_build s = fn10_build_c4 (fn10_findSymbols s) := by
    rw [fq10_build]
  rw [e]
  exact i4 (fn10_findSymbols s) _ _ _ rfl rfl rfl hp.2
abbrev pr10_build : List am_V → List am_C → Prop := fun a w => ∃ (s : hs), a = [.inr (.inl 0)] ∧ w = (hm_w s) ∧ wp10_build s
noncomputable def fm10_build : am_M := fun a w => (fun (z : Int32 × hs) => (some (.inl (z.1)), (hm_w (z.2)), 0, 0)) (fn10_build (hm_st w 0))
theorem fe10_build (s : hs) : fm10_build [.inr (.inl 0)] (hm_w s) = (some (.inl ((fn10_build s).1)), (hm_w ((fn10_build s).2)), 0, 0) := rfl
set_option maxRecDepth 100000 in
set_option maxHeartbeats 4000000 in
theorem rn10_build : ∀ (a : List am_V) (w : List am_C), pr10_build a w → ∃ nq, am_ev (am_mk kb10_build (fm10_build a w).2.2.1 (fm10_build a w).2.2.2 w.length) [4, 9, 14, 19, 23, 83, 105, 106, 112, 138] nq (0, am_L0 a 4, [], w, 0, 0) = some ((fm10_build a w).1, (fm10_build a w).2.1) := by
  rintro a w ⟨s, rfl, rfl, hp⟩
  rw [fe10_build s]
  exact am_lf_ev (re10_build s hp)
theorem rl10_build : ∀ (a : List am_V) (w : List am_C), pr10_build a w → a.length ≤ 4 := by
  rintro a w ⟨s, rfl, rfl, hp⟩
  exact Nat.le_of_ble_eq_true rfl
theorem pa10_build : ∀ a w, pr10_build a w → ∃ q a' ci fs r, a = .inr (.inl q) :: a' ∧ w[q]? = some (.inr (ci, fs)) ∧ hn_cl[ci]? = some r ∧ r.1 = hn_R10 := by
  rintro a w ⟨s, rfl, rfl, hp⟩
  exact ⟨0, _, 10, _, _, rfl, rfl, rfl, rfl⟩
set_option maxRecDepth 100000 in
set_option maxHeartbeats 4000000 in
theorem km10_build {l : Launch} {E : (Nat → Prop) → State → Prop} {D : va_G} {ou : Nat → Nat} {ca : Nat → ClassId} (hE : am_EC E) : hg_Met l E D ou ca hy10_build prog_12_method_46_code 4 (some .boolean) 7 pr10_build fm10_build := by
  refine am_met (B := kb10_build) (cuts := [4, 9, 14, 19, 23, 83, 105, 106, 112, 138]) (nt := 5) (by decide +kernel) rfl rfl (hg_tys_ok ca) ?_ (by decide) rl10_build ?_ rn10_build
  · exact fun t ht => List.mem_cons_of_mem _ (hg_arr t ht)
  · intro a w hp ad p e R s m args below meth c hR X hEs hnm
    have hR1 : 7 ≤ R.frames ∧ 280 ≤ R.locals := by rw [hR]; exact ⟨Nat.le_refl _, Nat.le_refl _⟩
    refine ⟨kd10_build_ok, fun index ci fi mode hq => kf10_ok X.2.2.2.2.1 (index, ci, fi, mode) (am_as_mem hq), fun index ci fs hq => (am_no hq).elim, fun x v hq => (am_no hq).elim, ?_, fun o t n f hq => (am_no hq).elim, rfl, rfl, by rw [hR]; exact Nat.le_refl _, by rw [hR]; exact Nat.le_refl _⟩
    intro pc sel n0 pre0 f0 hq
    have hz : ∀ q ∈ ki10_build, am_CK p l e R s m args below meth c D hn_cl (va_A (am_w ad ou ca w) s.heap.size) ou ca 4 q.1 q.2.2.1 q.2.2.2.1 q.2.2.2.2 := by
      refine am_allc (am_ck_V (n := 0) X hEs hE (km10_findSymbols hE) (hg_good (gw_mem 1116 (by decide +kernel))) rfl (List.mem_cons_of_mem _ (gw_mem 76 (by decide +kernel))) (List.mem_cons_of_mem _ (gw_mem 1113 (by decide +kernel))) (List.mem_cons_of_mem _ (gw_mem 1115 (by decide +kernel))) (List.mem_cons_of_mem _ (gw_mem 14 (by decide +kernel))) pa10_findSymbols (by decide +kernel) ⟨Nat.le_trans (by decide) hR1.1, Nat.le_trans (by decide) hR1.2⟩ (kd10_build_ok (1, .invokevirtual 237, 3) (List.mem_of_getElem? (i := 1) rfl))) (am_allc (am_ck_V (n := 1) X hEs hE (km10_go hE) (hg_good (gw_mem 1135 (by decide +kernel))) rfl (List.mem_cons_of_mem _ (gw_mem 76 (by decide +kernel))) (List.mem_cons_of_mem _ (gw_mem 1132 (by decide +kernel))) (List.mem_cons_of_mem _ (gw_mem 1134 (by decide +kernel))) (List.mem_cons_of_mem _ (gw_mem 18 (by decide +kernel))) pa10_go (by decide +kernel) ⟨Nat.le_trans (by decide) hR1.1, Nat.le_trans (by decide) hR1.2⟩ (kd10_build_ok (6, .invokevirtual 151, 3) (List.mem_of_getElem? (i := 4) rfl))) (am_allc (am_ck_V (n := 1) X hEs hE (km10_piece hE) (hg_good (gw_mem 1139 (by decide +kernel))) rfl (List.mem_cons_of_mem _ (gw_mem 76 (by decide +kernel))) (List.mem_cons_of_mem _ (gw_mem 1136 (by decide +kernel))) (List.mem_cons_of_mem _ (gw_mem 1138 (by decide +kernel))) (List.mem_cons_of_mem _ (gw_mem 19 (by decide +kernel))) pa10_piece (by decide +kernel) ⟨Nat.le_trans (by decide) hR1.1, Nat.le_trans (by decide) hR1.2⟩ (kd10_build_ok (46, .invokevirtual 240, 3) (List.mem_of_getElem? (i := 28) rfl))) (am_allc (am_ck_V (n := 1) X hEs hE (km10_readSymbol hE) (hg_good (gw_mem 1236 (by decide +kernel))) rfl (List.mem_cons_of_mem _ (gw_mem 76 (by decide +kernel))) (List.mem_cons_of_mem _ (gw_mem 1233 (by decide +kernel))) (List.mem_cons_of_mem _ (gw_mem 1235 (by decide +kernel))) (List.mem_cons_of_mem _ (gw_mem 41 (by decide +kernel))) pa10_readSymbol (by decide +kernel) ⟨Nat.le_trans (by decide) hR1.1, Nat.le_trans (by decide) hR1.2⟩ (kd10_build_ok (54, .invokevirtual 243, 3) (List.mem_of_getElem? (i := 32) rfl))) (am_all0))))
    exact hz _ (am_as_mem hq)
noncomputable def ki10_compile : List (Nat × Option (List Nat) × Nat × (List am_V → List am_C → Prop) × am_M) := [(2, none, 1, pr10_build, fm10_build)]
noncomputable def kb10_compile : am_B := (kd10_compile, am_as kf10, hn_ty, fun _ => none, fun _ => none, am_as ki10_compile, fun _ => none, 5, 1, (some .int))
noncomputable def fn10_compile (s : hs) : Int32 × hs := Classical.choose (⟨_, rfl⟩ : ∃ z : Int32 × hs, z = (if (fn10_build s).1 = 0 then ((0 : Int32), (hu_thrown ((fn10_build s).2) (1 : Int32))) else ((hm_holes (hu_thrown ((fn10_build s).2) (0 : Int32))), (hu_thrown ((fn10_build s).2) (0 : Int32)))))
theorem fq10_compile (s : hs) : fn10_compile s = (if (fn10_build s).1 = 0 then ((0 : Int32), (hu_thrown ((fn10_build s).2) (1 : Int32))) else ((hm_holes (hu_thrown ((fn10_build s).2) (0 : Int32))), (hu_thrown ((fn10_build s).2) (0 : Int32)))) := Classical.choose_spec (⟨_, rfl⟩ : ∃ z : Int32 × hs, z = (if (fn10_build s).1 = 0 then ((0 : Int32), (hu_thrown ((fn10_build s).2) (1 : Int32))) else ((hm_holes (hu_thrown ((fn10_build s).2) (0 : Int32))), (hu_thrown ((fn10_build s).2) (0 : Int32)))))
def wp10_compile (s : hs) : Prop := (wp10_build s)
set_option maxRecDepth 100000 in
set_option maxHeartbeats 4000000 in
theorem re10_compile (s : hs) (hp : wp10_compile s) : am_lf (am_mk kb10_compile 0 0 22) [] (0, am_L0 [.inr (.inl 0)] 1, [], (hm_w s), 0, 0) = some (some (.inl ((fn10_compile s).1)), (hm_w ((fn10_compile s).2))) := by
  unfold wp10_compile at hp
  refine am_lf_eq ?_
  generalize am_lf (am_mk kb10_compile 0 0 22) [] = kt
  refine am_cx (pre := pr10_build) (f := fm10_build) (r := (some (.inl ((fn10_build s).1)), (hm_w ((fn10_build s).2)), 0, 0)) ?_ ?_ ?_ ?_
  · exact ⟨s, rfl, rfl, hp⟩
  · exact fe10_build s
  · exact rfl
  refine am_if (c := (fn10_build s).1 = 0) (fun h1 => ?_) (fun h1 => ?_)
  · refine am_sp (w' := (hm_w (hu_thrown ((fn10_build s).2) (1 : Int32)))) (kp_R_0_thrown ((fn10_build s).2) (1 : Int32)) ?_
    have e : fn10_compile s = ((0 : Int32), (hu_thrown ((fn10_build s).2) (1 : Int32))) := by
      rw [fq10_compile]
      rw [if_pos h1]
    rw [e] <;> rfl
  · refine am_sp (w' := (hm_w (hu_thrown ((fn10_build s).2) (0 : Int32)))) (kp_R_0_thrown ((fn10_build s).2) (0 : Int32)) ?_
    have e : fn10_compile s = ((hm_holes (hu_thrown ((fn10_build s).2) (0 : Int32))), (hu_thrown ((fn10_build s).2) (0 : Int32))) := by
      rw [fq10_compile]
      rw [if_neg h1]
    rw [e] <;> rfl
abbrev pr10_compile : List am_V → List am_C → Prop := fun a w => ∃ (s : hs), a = [.inr (.inl 0)] ∧ w = (hm_w s) ∧ wp10_compile s
noncomputable def fm10_compile : am_M := fun a w => (fun (z : Int32 × hs) => (some (.inl (z.1)), (hm_w (z.2)), 0, 0)) (fn10_compile (hm_st w 0))
theorem fe10_compile (s : hs) : fm10_compile [.inr (.inl 0)] (hm_w s) = (some (.inl ((fn10_compile s).1)), (hm_w ((fn10_compile s).2)), 0, 0) := rfl
set_option maxRecDepth 100000 in
set_option maxHeartbeats 4000000 in
theorem rn10_compile : ∀ (a : List am_V) (w : List am_C), pr10_compile a w → ∃ nq, am_ev (am_mk kb10_compile (fm10_compile a w).2.2.1 (fm10_compile a w).2.2.2 w.length) [] nq (0, am_L0 a 1, [], w, 0, 0) = some ((fm10_compile a w).1, (fm10_compile a w).2.1) := by
  rintro a w ⟨s, rfl, rfl, hp⟩
  rw [fe10_compile s]
  exact am_lf_ev (re10_compile s hp)
theorem rl10_compile : ∀ (a : List am_V) (w : List am_C), pr10_compile a w → a.length ≤ 1 := by
  rintro a w ⟨s, rfl, rfl, hp⟩
  exact Nat.le_of_ble_eq_true rfl
theorem pa10_compile : ∀ a w, pr10_compile a w → ∃ q a' ci fs r, a = .inr (.inl q) :: a' ∧ w[q]? = some (.inr (ci, fs)) ∧ hn_cl[ci]? = some r ∧ r.1 = hn_R10 := by
  rintro a w ⟨s, rfl, rfl, hp⟩
  exact ⟨0, _, 10, _, _, rfl, rfl, rfl, rfl⟩
set_option maxRecDepth 100000 in
set_option maxHeartbeats 4000000 in
theorem km10_compile {l : Launch} {E : (Nat → Prop) → State → Prop} {D : va_G} {ou : Nat → Nat} {ca : Nat → ClassId} (hE : am_EC E) : hg_Met l E D ou ca hy10_compile prog_12_method_47_code 1 (some .int) 8 pr10_compile fm10_compile := by
  refine am_met (B := kb10_compile) (cuts := []) (nt := 5) (by decide +kernel) rfl rfl (hg_tys_ok ca) ?_ (by decide) rl10_compile ?_ rn10_compile
  · exact fun t ht => List.mem_cons_of_mem _ (hg_arr t ht)
  · intro a w hp ad p e R s m args below meth c hR X hEs hnm
    have hR1 : 8 ≤ R.frames ∧ 320 ≤ R.locals := by rw [hR]; exact ⟨Nat.le_refl _, Nat.le_refl _⟩
    refine ⟨kd10_compile_ok, fun index ci fi mode hq => kf10_ok X.2.2.2.2.1 (index, ci, fi, mode) (am_as_mem hq), fun index ci fs hq => (am_no hq).elim, fun x v hq => (am_no hq).elim, ?_, fun o t n f hq => (am_no hq).elim, rfl, rfl, by rw [hR]; exact Nat.le_refl _, by rw [hR]; exact Nat.le_refl _⟩
    intro pc sel n0 pre0 f0 hq
    have hz : ∀ q ∈ ki10_compile, am_CK p l e R s m args below meth c D hn_cl (va_A (am_w ad ou ca w) s.heap.size) ou ca 1 q.1 q.2.2.1 q.2.2.2.1 q.2.2.2.2 := by
      refine am_allc (am_ck_V (n := 0) X hEs hE (km10_build hE) (hg_good (gw_mem 1112 (by decide +kernel))) rfl (List.mem_cons_of_mem _ (gw_mem 76 (by decide +kernel))) (List.mem_cons_of_mem _ (gw_mem 1109 (by decide +kernel))) (List.mem_cons_of_mem _ (gw_mem 1111 (by decide +kernel))) (List.mem_cons_of_mem _ (gw_mem 13 (by decide +kernel))) pa10_build (by decide +kernel) ⟨Nat.le_trans (by decide) hR1.1, Nat.le_trans (by decide) hR1.2⟩ (kd10_compile_ok (2, .invokevirtual 246, 3) (List.mem_of_getElem? (i := 2) rfl))) (am_all0)
    exact hz _ (am_as_mem hq)
noncomputable def ki10_accepts : List (Nat × Option (List Nat) × Nat × (List am_V → List am_C → Prop) × am_M) := [(6, none, 1, pr10_build, fm10_build)]
noncomputable def kb10_accepts : am_B := (kd10_accepts, am_as kf10, hn_ty, fun _ => none, fun _ => none, am_as ki10_accepts, fun _ => none, 5, 1, (some .boolean))
noncomputable def fn10_accepts (s : hs) : Int32 × hs := Classical.choose (⟨_, rfl⟩ : ∃ z : Int32 × hs, z = ((fn10_build (hu_thrown s (0 : Int32))).1, (fn10_build (hu_thrown s (0 : Int32))).2))
theorem fq10_accepts (s : hs) : fn10_accepts s = ((fn10_build (hu_thrown s (0 : Int32))).1, (fn10_build (hu_thrown s (0 : Int32))).2) := Classical.choose_spec (⟨_, rfl⟩ : ∃ z : Int32 × hs, z = ((fn10_build (hu_thrown s (0 : Int32))).1, (fn10_build (hu_thrown s (0 : Int32))).2))
def wp10_accepts (s : hs) : Prop := ((wp10_build (hu_thrown s (0 : Int32))) ∧ (am_fit .boolean (.inl (fn10_build (hu_thrown s (0 : Int32))).1) = true))
set_option maxRecDepth 100000 in
set_option maxHeartbeats 4000000 in
theorem re10_accepts (s : hs) (hp : wp10_accepts s) : am_lf (am_mk kb10_accepts 0 0 22) [] (0, am_L0 [.inr (.inl 0)] 1, [], (hm_w s), 0, 0) = some (some (.inl ((fn10_accepts s).1)), (hm_w ((fn10_accepts s).2))) := by
  unfold wp10_accepts at hp
  refine am_lf_eq ?_
  generalize am_lf (am_mk kb10_accepts 0 0 22) [] = kt
  refine am_sp (w' := (hm_w (hu_thrown s (0 : Int32)))) (kp_R_0_thrown s (0 : Int32)) ?_
  refine am_cx (pre := pr10_build) (f := fm10_build) (r := (some (.inl ((fn10_build (hu_thrown s (0 : Int32))).1)), (hm_w ((fn10_build (hu_thrown s (0 : Int32))).2)), 0, 0)) ?_ ?_ ?_ ?_
  · exact ⟨(hu_thrown s (0 : Int32)), rfl, rfl, hp.1⟩
  · exact fe10_build (hu_thrown s (0 : Int32))
  · exact rfl
  refine am_ci (c := am_fit .boolean (.inl (fn10_build (hu_thrown s (0 : Int32))).1) = true) hp.2 ?_
  have e : fn10_accepts s = ((fn10_build (hu_thrown s (0 : Int32))).1, (fn10_build (hu_thrown s (0 : Int32))).2) := by
    rw [fq10_accepts]
  rw [e] <;> rfl
abbrev pr10_accepts : List am_V → List am_C → Prop := fun a w => ∃ (s : hs), a = [.inr (.inl 0)] ∧ w = (hm_w s) ∧ wp10_accepts s
noncomputable def fm10_accepts : am_M := fun a w => (fun (z : Int32 × hs) => (some (.inl (z.1)), (hm_w (z.2)), 0, 0)) (fn10_accepts (hm_st w 0))
theorem fe10_accepts (s : hs) : fm10_accepts [.inr (.inl 0)] (hm_w s) = (some (.inl ((fn10_accepts s).1)), (hm_w ((fn10_accepts s).2)), 0, 0) := rfl
set_option maxRecDepth 100000 in
set_option maxHeartbeats 4000000 in
theorem rn10_accepts : ∀ (a : List am_V) (w : List am_C), pr10_accepts a w → ∃ nq, am_ev (am_mk kb10_accepts (fm10_accepts a w).2.2.1 (fm10_accepts a w).2.2.2 w.length) [] nq (0, am_L0 a 1, [], w, 0, 0) = some ((fm10_accepts a w).1, (fm10_accepts a w).2.1) := by
  rintro a w ⟨s, rfl, rfl, hp⟩
  rw [fe10_accepts s]
  exact am_lf_ev (re10_accepts s hp)
theorem rl10_accepts : ∀ (a : List am_V) (w : List am_C), pr10_accepts a w → a.length ≤ 1 := by
  rintro a w ⟨s, rfl, rfl, hp⟩
  exact Nat.le_of_ble_eq_true rfl
theorem pa10_accepts : ∀ a w, pr10_accepts a w → ∃ q a' ci fs r, a = .inr (.inl q) :: a' ∧ w[q]? = some (.inr (ci, fs)) ∧ hn_cl[ci]? = some r ∧ r.1 = hn_R10 := by
  rintro a w ⟨s, rfl, rfl, hp⟩
  exact ⟨0, _, 10, _, _, rfl, rfl, rfl, rfl⟩
set_option maxRecDepth 100000 in
set_option maxHeartbeats 4000000 in
theorem km10_accepts {l : Launch} {E : (Nat → Prop) → State → Prop} {D : va_G} {ou : Nat → Nat} {ca : Nat → ClassId} (hE : am_EC E) : hg_Met l E D ou ca hy10_accepts prog_12_method_48_code 1 (some .boolean) 8 pr10_accepts fm10_accepts := by
  refine am_met (B := kb10_accepts) (cuts := []) (nt := 5) (by decide +kernel) rfl rfl (hg_tys_ok ca) ?_ (by decide) rl10_accepts ?_ rn10_accepts
  · exact fun t ht => List.mem_cons_of_mem _ (hg_arr t ht)
  · intro a w hp ad p e R s m args below meth c hR X hEs hnm
    have hR1 : 8 ≤ R.frames ∧ 320 ≤ R.locals := by rw [hR]; exact ⟨Nat.le_refl _, Nat.le_refl _⟩
    refine ⟨kd10_accepts_ok, fun index ci fi mode hq => kf10_ok X.2.2.2.2.1 (index, ci, fi, mode) (am_as_mem hq), fun index ci fs hq => (am_no hq).elim, fun x v hq => (am_no hq).elim, ?_, fun o t n f hq => (am_no hq).elim, rfl, rfl, by rw [hR]; exact Nat.le_refl _, by rw [hR]; exact Nat.le_refl _⟩
    intro pc sel n0 pre0 f0 hq
    have hz : ∀ q ∈ ki10_accepts, am_CK p l e R s m args below meth c D hn_cl (va_A (am_w ad ou ca w) s.heap.size) ou ca 1 q.1 q.2.2.1 q.2.2.2.1 q.2.2.2.2 := by
      refine am_allc (am_ck_V (n := 0) X hEs hE (km10_build hE) (hg_good (gw_mem 1112 (by decide +kernel))) rfl (List.mem_cons_of_mem _ (gw_mem 76 (by decide +kernel))) (List.mem_cons_of_mem _ (gw_mem 1109 (by decide +kernel))) (List.mem_cons_of_mem _ (gw_mem 1111 (by decide +kernel))) (List.mem_cons_of_mem _ (gw_mem 13 (by decide +kernel))) pa10_build (by decide +kernel) ⟨Nat.le_trans (by decide) hR1.1, Nat.le_trans (by decide) hR1.2⟩ (kd10_accepts_ok (6, .invokevirtual 246, 3) (List.mem_of_getElem? (i := 4) rfl))) (am_all0)
    exact hz _ (am_as_mem hq)
noncomputable def ki10_fault : List (Nat × Option (List Nat) × Nat × (List am_V → List am_C → Prop) × am_M) := []
noncomputable def kb10_fault : am_B := (kd10_fault, am_as kf10, hn_ty, fun _ => none, fun _ => none, am_as ki10_fault, fun _ => none, 5, 1, (some .int))
noncomputable def fn10_fault (s : hs) : Int32 × hs := Classical.choose (⟨_, rfl⟩ : ∃ z : Int32 × hs, z = ((hm_fault (hu_thrown s (0 : Int32))), (hu_thrown s (0 : Int32))))
theorem fq10_fault (s : hs) : fn10_fault s = ((hm_fault (hu_thrown s (0 : Int32))), (hu_thrown s (0 : Int32))) := Classical.choose_spec (⟨_, rfl⟩ : ∃ z : Int32 × hs, z = ((hm_fault (hu_thrown s (0 : Int32))), (hu_thrown s (0 : Int32))))
def wp10_fault (s : hs) : Prop := True
set_option maxRecDepth 100000 in
set_option maxHeartbeats 4000000 in
theorem re10_fault (s : hs) (hp : wp10_fault s) : am_lf (am_mk kb10_fault 0 0 22) [] (0, am_L0 [.inr (.inl 0)] 1, [], (hm_w s), 0, 0) = some (some (.inl ((fn10_fault s).1)), (hm_w ((fn10_fault s).2))) := by
  unfold wp10_fault at hp
  refine am_lf_eq ?_
  generalize am_lf (am_mk kb10_fault 0 0 22) [] = kt
  refine am_sp (w' := (hm_w (hu_thrown s (0 : Int32)))) (kp_R_0_thrown s (0 : Int32)) ?_
  have e : fn10_fault s = ((hm_fault (hu_thrown s (0 : Int32))), (hu_thrown s (0 : Int32))) := by
    rw [fq10_fault]
  rw [e] <;> rfl
abbrev pr10_fault : List am_V → List am_C → Prop := fun a w => ∃ (s : hs), a = [.inr (.inl 0)] ∧ w = (hm_w s) ∧ wp10_fault s
noncomputable def fm10_fault : am_M := fun a w => (fun (z : Int32 × hs) => (some (.inl (z.1)), (hm_w (z.2)), 0, 0)) (fn10_fault (hm_st w 0))
theorem fe10_fault (s : hs) : fm10_fault [.inr (.inl 0)] (hm_w s) = (some (.inl ((fn10_fault s).1)), (hm_w ((fn10_fault s).2)), 0, 0) := rfl
set_option maxRecDepth 100000 in
set_option maxHeartbeats 4000000 in
theorem rn10_fault : ∀ (a : List am_V) (w : List am_C), pr10_fault a w → ∃ nq, am_ev (am_mk kb10_fault (fm10_fault a w).2.2.1 (fm10_fault a w).2.2.2 w.length) [] nq (0, am_L0 a 1, [], w, 0, 0) = some ((fm10_fault a w).1, (fm10_fault a w).2.1) := by
  rintro a w ⟨s, rfl, rfl, hp⟩
  rw [fe10_fault s]
  exact am_lf_ev (re10_fault s hp)
theorem rl10_fault : ∀ (a : List am_V) (w : List am_C), pr10_fault a w → a.length ≤ 1 := by
  rintro a w ⟨s, rfl, rfl, hp⟩
  exact Nat.le_of_ble_eq_true rfl
theorem pa10_fault : ∀ a w, pr10_fault a w → ∃ q a' ci fs r, a = .inr (.inl q) :: a' ∧ w[q]? = some (.inr (ci, fs)) ∧ hn_cl[ci]? = some r ∧ r.1 = hn_R10 := by
  rintro a w ⟨s, rfl, rfl, hp⟩
  exact ⟨0, _, 10, _, _, rfl, rfl, rfl, rfl⟩
set_option maxRecDepth 100000 in
set_option maxHeartbeats 4000000 in
theorem km10_fault {l : Launch} {E : (Nat → Prop) → State → Prop} {D : va_G} {ou : Nat → Nat} {ca : Nat → ClassId} (hE : am_EC E) : hg_Met l E D ou ca hy10_fault prog_12_method_49_code 1 (some .int) 0 pr10_fault fm10_fault := by
  refine am_met (B := kb10_fault) (cuts := []) (nt := 5) (by decide +kernel) rfl rfl (hg_tys_ok ca) ?_ (by decide) rl10_fault ?_ rn10_fault
  · exact fun t ht => List.mem_cons_of_mem _ (hg_arr t ht)
  · intro a w hp ad p e R s m args below meth c hR X hEs hnm
    have hR1 : 0 ≤ R.frames ∧ 0 ≤ R.locals := by rw [hR]; exact ⟨Nat.le_refl _, Nat.le_refl _⟩
    refine ⟨kd10_fault_ok, fun index ci fi mode hq => kf10_ok X.2.2.2.2.1 (index, ci, fi, mode) (am_as_mem hq), fun index ci fs hq => (am_no hq).elim, fun x v hq => (am_no hq).elim, ?_, fun o t n f hq => (am_no hq).elim, rfl, rfl, by rw [hR]; exact Nat.le_refl _, by rw [hR]; exact Nat.le_refl _⟩
    intro pc sel n0 pre0 f0 hq
    exact (am_no hq).elim
noncomputable def ki10_hole : List (Nat × Option (List Nat) × Nat × (List am_V → List am_C → Prop) × am_M) := []
noncomputable def kb10_hole : am_B := (kd10_hole, am_as kf10, hn_ty, fun _ => none, fun _ => none, am_as ki10_hole, fun _ => none, 5, 2, (some .int))
noncomputable def fn10_hole (s : hs) (p0 : Int32) : Int32 × hs := Classical.choose (⟨_, rfl⟩ : ∃ z : Int32 × hs, z = (if (hm_compiled (hu_thrown s (0 : Int32))) = 0 then ((-1 : Int32), (hu_thrown s (0 : Int32))) else (if p0 < 0 then ((-1 : Int32), (hu_thrown s (0 : Int32))) else (if (hm_holes (hu_thrown s (0 : Int32))) ≤ p0 then ((-1 : Int32), (hu_thrown s (0 : Int32))) else (((hm_contexts (hu_thrown s (0 : Int32))) (p0).toNatClampNeg), (hu_thrown s (0 : Int32)))))))
theorem fq10_hole (s : hs) (p0 : Int32) : fn10_hole s p0 = (if (hm_compiled (hu_thrown s (0 : Int32))) = 0 then ((-1 : Int32), (hu_thrown s (0 : Int32))) else (if p0 < 0 then ((-1 : Int32), (hu_thrown s (0 : Int32))) else (if (hm_holes (hu_thrown s (0 : Int32))) ≤ p0 then ((-1 : Int32), (hu_thrown s (0 : Int32))) else (((hm_contexts (hu_thrown s (0 : Int32))) (p0).toNatClampNeg), (hu_thrown s (0 : Int32)))))) := Classical.choose_spec (⟨_, rfl⟩ : ∃ z : Int32 × hs, z = (if (hm_compiled (hu_thrown s (0 : Int32))) = 0 then ((-1 : Int32), (hu_thrown s (0 : Int32))) else (if p0 < 0 then ((-1 : Int32), (hu_thrown s (0 : Int32))) else (if (hm_holes (hu_thrown s (0 : Int32))) ≤ p0 then ((-1 : Int32), (hu_thrown s (0 : Int32))) else (((hm_contexts (hu_thrown s (0 : Int32))) (p0).toNatClampNeg), (hu_thrown s (0 : Int32)))))))
def wp10_hole (s : hs) (p0 : Int32) : Prop := (((hm_compiled (hu_thrown s (0 : Int32))) = 0 → True) ∧ (¬ (hm_compiled (hu_thrown s (0 : Int32))) = 0 → ((p0 < 0 → True) ∧ (¬ p0 < 0 → (((hm_holes (hu_thrown s (0 : Int32))) ≤ p0 → True) ∧ (¬ (hm_holes (hu_thrown s (0 : Int32))) ≤ p0 → (am_inb p0 80 = true)))))))
set_option maxRecDepth 100000 in
set_option maxHeartbeats 4000000 in
theorem re10_hole (s : hs) (p0 : Int32) (hp : wp10_hole s p0) : am_lf (am_mk kb10_hole 0 0 22) [] (0, am_L0 [.inr (.inl 0), .inl p0] 2, [], (hm_w s), 0, 0) = some (some (.inl ((fn10_hole s p0).1)), (hm_w ((fn10_hole s p0).2))) := by
  unfold wp10_hole at hp
  refine am_lf_eq ?_
  generalize am_lf (am_mk kb10_hole 0 0 22) [] = kt
  refine am_sp (w' := (hm_w (hu_thrown s (0 : Int32)))) (kp_R_0_thrown s (0 : Int32)) ?_
  refine am_if (c := (hm_compiled (hu_thrown s (0 : Int32))) = 0) (fun h1 => ?_) (fun h1 => ?_)
  · have e : fn10_hole s p0 = ((-1 : Int32), (hu_thrown s (0 : Int32))) := by
      rw [fq10_hole]
      rw [if_pos h1]
    rw [e] <;> rfl
  · have q1 := hp.2 h1
    refine am_if (c := p0 < 0) (fun h2 => ?_) (fun h2 => ?_)
    · have e : fn10_hole s p0 = ((-1 : Int32), (hu_thrown s (0 : Int32))) := by
        rw [fq10_hole]
        rw [if_neg h1, if_pos h2]
      rw [e] <;> rfl
    · have q2 := q1.2 h2
      refine am_if (c := (hm_holes (hu_thrown s (0 : Int32))) ≤ p0) (fun h3 => ?_) (fun h3 => ?_)
      · have e : fn10_hole s p0 = ((-1 : Int32), (hu_thrown s (0 : Int32))) := by
          rw [fq10_hole]
          rw [if_neg h1, if_neg h2, if_pos h3]
        rw [e] <;> rfl
      · have q3 := q2.2 h3
        refine am_ci (c := am_inb p0 80 = true) q3 ?_
        have e : fn10_hole s p0 = (((hm_contexts (hu_thrown s (0 : Int32))) (p0).toNatClampNeg), (hu_thrown s (0 : Int32))) := by
          rw [fq10_hole]
          rw [if_neg h1, if_neg h2, if_neg h3]
        rw [e] <;> rfl
abbrev pr10_hole : List am_V → List am_C → Prop := fun a w => ∃ (s : hs) (p0 : Int32), a = [.inr (.inl 0), .inl p0] ∧ w = (hm_w s) ∧ wp10_hole s p0
noncomputable def fm10_hole : am_M := fun a w => (fun (z : Int32 × hs) => (some (.inl (z.1)), (hm_w (z.2)), 0, 0)) (fn10_hole (hm_st w 0) (am_i (am_an a 1)))
theorem fe10_hole (s : hs) (p0 : Int32) : fm10_hole [.inr (.inl 0), .inl p0] (hm_w s) = (some (.inl ((fn10_hole s p0).1)), (hm_w ((fn10_hole s p0).2)), 0, 0) := rfl
set_option maxRecDepth 100000 in
set_option maxHeartbeats 4000000 in
theorem rn10_hole : ∀ (a : List am_V) (w : List am_C), pr10_hole a w → ∃ nq, am_ev (am_mk kb10_hole (fm10_hole a w).2.2.1 (fm10_hole a w).2.2.2 w.length) [] nq (0, am_L0 a 2, [], w, 0, 0) = some ((fm10_hole a w).1, (fm10_hole a w).2.1) := by
  rintro a w ⟨s, p0, rfl, rfl, hp⟩
  rw [fe10_hole s p0]
  exact am_lf_ev (re10_hole s p0 hp)
theorem rl10_hole : ∀ (a : List am_V) (w : List am_C), pr10_hole a w → a.length ≤ 2 := by
  rintro a w ⟨s, p0, rfl, rfl, hp⟩
  exact Nat.le_of_ble_eq_true rfl
theorem pa10_hole : ∀ a w, pr10_hole a w → ∃ q a' ci fs r, a = .inr (.inl q) :: a' ∧ w[q]? = some (.inr (ci, fs)) ∧ hn_cl[ci]? = some r ∧ r.1 = hn_R10 := by
  rintro a w ⟨s, p0, rfl, rfl, hp⟩
  exact ⟨0, _, 10, _, _, rfl, rfl, rfl, rfl⟩
set_option maxRecDepth 100000 in
set_option maxHeartbeats 4000000 in
theorem km10_hole {l : Launch} {E : (Nat → Prop) → State → Prop} {D : va_G} {ou : Nat → Nat} {ca : Nat → ClassId} (hE : am_EC E) : hg_Met l E D ou ca hy10_hole prog_12_method_50_code 2 (some .int) 0 pr10_hole fm10_hole := by
  refine am_met (B := kb10_hole) (cuts := []) (nt := 5) (by decide +kernel) rfl rfl (hg_tys_ok ca) ?_ (by decide) rl10_hole ?_ rn10_hole
  · exact fun t ht => List.mem_cons_of_mem _ (hg_arr t ht)
  · intro a w hp ad p e R s m args below meth c hR X hEs hnm
    have hR1 : 0 ≤ R.frames ∧ 0 ≤ R.locals := by rw [hR]; exact ⟨Nat.le_refl _, Nat.le_refl _⟩
    refine ⟨kd10_hole_ok, fun index ci fi mode hq => kf10_ok X.2.2.2.2.1 (index, ci, fi, mode) (am_as_mem hq), fun index ci fs hq => (am_no hq).elim, fun x v hq => (am_no hq).elim, ?_, fun o t n f hq => (am_no hq).elim, rfl, rfl, by rw [hR]; exact Nat.le_refl _, by rw [hR]; exact Nat.le_refl _⟩
    intro pc sel n0 pre0 f0 hq
    exact (am_no hq).elim
noncomputable def ki10_item : List (Nat × Option (List Nat) × Nat × (List am_V → List am_C → Prop) × am_M) := []
noncomputable def kb10_item : am_B := (kd10_item, am_as kf10, hn_ty, fun _ => none, fun _ => none, am_as ki10_item, fun _ => none, 5, 4, (some .int))
noncomputable def fn10_item_c109 (s : hs) (v1 : Int32) : Int32 × hs := (((hm_counts (ha_counts s ((v1).toNatClampNeg) (((hm_counts s) (v1).toNatClampNeg) + (1 : Int32)))) (v1).toNatClampNeg), (ha_counts s ((v1).toNatClampNeg) (((hm_counts s) (v1).toNatClampNeg) + (1 : Int32))))
def wp10_item_c109 (s : hs) (v1 : Int32) : Prop := (am_inb v1 8 = true ∧ (am_inb v1 8 = true ∧ (am_inb v1 8 = true)))
set_option maxRecDepth 100000 in
set_option maxHeartbeats 4000000 in
theorem rc10_item_109 (s : hs) (v1 : Int32) (j2 : Option am_V) (j3 : Option am_V) (g2 : am_loO 22 j2 = true) (g3 : am_loO 22 j3 = true) (hp : wp10_item_c109 s v1) : am_lf (am_mk kb10_item 0 0 22) [11, 16, 19, 41, 71, 73, 109] (109, [some (.inr (.inl 0)), some (.inl v1), j2, j3], [], (hm_w s), 0, 0) = some (some (.inl ((fn10_item_c109 s v1).1)), (hm_w ((fn10_item_c109 s v1).2))) := by
  unfold wp10_item_c109 at hp
  refine am_lf_eq ?_
  generalize am_lf (am_mk kb10_item 0 0 22) [11, 16, 19, 41, 71, 73, 109] = kt
  refine am_ci (c := am_inb v1 8 = true) hp.1 ?_
  refine am_ci (c := am_inb v1 8 = true) hp.2.1 ?_
  refine am_sp (w' := (hm_w (ha_counts s ((v1).toNatClampNeg) (((hm_counts s) (v1).toNatClampNeg) + (1 : Int32))))) (kp_R_0_counts s ((v1).toNatClampNeg) (((hm_counts s) (v1).toNatClampNeg) + (1 : Int32))) ?_
  refine am_ci (c := am_inb v1 8 = true) hp.2.2 ?_
  have e : fn10_item_c109 s v1 = (((hm_counts (ha_counts s ((v1).toNatClampNeg) (((hm_counts s) (v1).toNatClampNeg) + (1 : Int32)))) (v1).toNatClampNeg), (ha_counts s ((v1).toNatClampNeg) (((hm_counts s) (v1).toNatClampNeg) + (1 : Int32)))) := by
    rw [fn10_item_c109]
  rw [e] <;> rfl
noncomputable def fn10_item_c73 : Nat → hs → Int32 → Int32 → Int32 → Int32 × hs
  | 0, s, _, _, _ => (0, s)
  | fu + 1, s, v1, v2, v3 => (if (hm_typed s) ≤ v3 then (fn10_item_c109 (hu_typed s (0 : Int32)) v1) else (fn10_item_c73 fu (ha_items s (((((40 : Int32) * v2) + v3)).toNatClampNeg) (vp_nar .char ((hm_row s) (v3).toNatClampNeg))) v1 v2 (v3 + (1 : Int32))))
def wp10_item_c73 : Nat → hs → Int32 → Int32 → Int32 → Prop
  | 0, _, _, _, _ => False
  | fu + 1, s, v1, v2, v3 => (((hm_typed s) ≤ v3 → (wp10_item_c109 (hu_typed s (0 : Int32)) v1)) ∧ (¬ (hm_typed s) ≤ v3 → (am_inb v3 40 = true ∧ (am_inb (((40 : Int32) * v2) + v3) 1280 = true ∧ (wp10_item_c73 fu (ha_items s (((((40 : Int32) * v2) + v3)).toNatClampNeg) (vp_nar .char ((hm_row s) (v3).toNatClampNeg))) v1 v2 (v3 + (1 : Int32)))))))
set_option maxRecDepth 100000 in
set_option maxHeartbeats 4000000 in
theorem rc10_item_73 : ∀ (fu : Nat) (s : hs) (v1 : Int32) (v2 : Int32) (v3 : Int32) , wp10_item_c73 fu s v1 v2 v3 → am_lf (am_mk kb10_item 0 0 22) [11, 16, 19, 41, 71, 73, 109] (73, [some (.inr (.inl 0)), some (.inl v1), some (.inl v2), some (.inl v3)], [], (hm_w s), 0, 0) = some (some (.inl ((fn10_item_c73 fu s v1 v2 v3).1)), (hm_w ((fn10_item_c73 fu s v1 v2 v3).2))) := by
  intro fu
  induction fu with
  | zero =>
    intro s v1 v2 v3 hp
    exact hp.elim
  | succ fu ih =>
    intro s v1 v2 v3 hp
    unfold wp10_item_c73 at hp
    have i109 := @rc10_item_109
    refine am_lf_eq ?_
    generalize am_lf (am_mk kb10_item 0 0 22) [11, 16, 19, 41, 71, 73, 109] = kt at i109 ih ⊢
    refine am_if (c := (hm_typed s) ≤ v3) (fun h2 => ?_) (fun h2 => ?_)
    · have q2 := hp.1 h2
      refine am_sp (w' := (hm_w (hu_typed s (0 : Int32)))) (kp_R_0_typed s (0 : Int32)) ?_
      have e : fn10_item_c73 (fu + 1) s v1 v2 v3 = fn10_item_c109 (hu_typed s (0 : Int32)) v1 := by
        rw [fn10_item_c73]
        rw [if_pos h2]
      rw [e]
      exact i109 (hu_typed s (0 : Int32)) v1 _ _ rfl rfl q2
    · have q2 := hp.2 h2
      refine am_ci (c := am_inb v3 40 = true) q2.1 ?_
      refine am_ci (c := am_inb (((40 : Int32) * v2) + v3) 1280 = true) q2.2.1 ?_
      refine am_sp (w' := (hm_w (ha_items s (((((40 : Int32) * v2) + v3)).toNatClampNeg) (vp_nar .char ((hm_row s) (v3).toNatClampNeg))))) (kp_R_0_items s (((((40 : Int32) * v2) + v3)).toNatClampNeg) (vp_nar .char ((hm_row s) (v3).toNatClampNeg))) ?_
      have e : fn10_item_c73 (fu + 1) s v1 v2 v3 = fn10_item_c73 fu (ha_items s (((((40 : Int32) * v2) + v3)).toNatClampNeg) (vp_nar .char ((hm_row s) (v3).toNatClampNeg))) v1 v2 (v3 + (1 : Int32)) := by
        rw [fn10_item_c73]
        rw [if_neg h2]
      rw [e]
      exact ih (ha_items s (((((40 : Int32) * v2) + v3)).toNatClampNeg) (vp_nar .char ((hm_row s) (v3).toNatClampNeg))) v1 v2 (v3 + (1 : Int32))  q2.2.2
noncomputable def fn10_item_c71 (s : hs) (v1 : Int32) (v2 : Int32) : Int32 × hs := (fn10_item_c73 hg_fu s v1 v2 (0 : Int32))
def wp10_item_c71 (s : hs) (v1 : Int32) (v2 : Int32) : Prop := (wp10_item_c73 hg_fu s v1 v2 (0 : Int32))
set_option maxRecDepth 100000 in
set_option maxHeartbeats 4000000 in
theorem rc10_item_71 (s : hs) (v1 : Int32) (v2 : Int32) (j3 : Option am_V) (g3 : am_loO 22 j3 = true) (hp : wp10_item_c71 s v1 v2) : am_lf (am_mk kb10_item 0 0 22) [11, 16, 19, 41, 71, 73, 109] (71, [some (.inr (.inl 0)), some (.inl v1), some (.inl v2), j3], [], (hm_w s), 0, 0) = some (some (.inl ((fn10_item_c71 s v1 v2).1)), (hm_w ((fn10_item_c71 s v1 v2).2))) := by
  unfold wp10_item_c71 at hp
  have i73 := @rc10_item_73
  refine am_lf_eq ?_
  generalize am_lf (am_mk kb10_item 0 0 22) [11, 16, 19, 41, 71, 73, 109] = kt at i73 ⊢
  have e : fn10_item_c71 s v1 v2 = fn10_item_c73 hg_fu s v1 v2 (0 : Int32) := by
    rw [fn10_item_c71]
  rw [e]
  exact i73 hg_fu s v1 v2 (0 : Int32)  hp
noncomputable def fn10_item_c41 (s : hs) (v1 : Int32) : Int32 × hs := (if (hm_thrown s) ≤ 0 then (fn10_item_c71 (ha_lengths s (((((4 : Int32) * v1) + ((hm_counts s) (v1).toNatClampNeg))).toNatClampNeg) (hm_typed s)) v1 (((4 : Int32) * v1) + ((hm_counts s) (v1).toNatClampNeg))) else ((0 : Int32), s))
def wp10_item_c41 (s : hs) (v1 : Int32) : Prop := (((hm_thrown s) ≤ 0 → (am_inb v1 8 = true ∧ (am_inb (((4 : Int32) * v1) + ((hm_counts s) (v1).toNatClampNeg)) 32 = true ∧ (wp10_item_c71 (ha_lengths s (((((4 : Int32) * v1) + ((hm_counts s) (v1).toNatClampNeg))).toNatClampNeg) (hm_typed s)) v1 (((4 : Int32) * v1) + ((hm_counts s) (v1).toNatClampNeg)))))) ∧ (¬ (hm_thrown s) ≤ 0 → True))
set_option maxRecDepth 100000 in
set_option maxHeartbeats 4000000 in
theorem rc10_item_41 (s : hs) (v1 : Int32) (j2 : Option am_V) (j3 : Option am_V) (g2 : am_loO 22 j2 = true) (g3 : am_loO 22 j3 = true) (hp : wp10_item_c41 s v1) : am_lf (am_mk kb10_item 0 0 22) [11, 16, 19, 41, 71, 73, 109] (41, [some (.inr (.inl 0)), some (.inl v1), j2, j3], [], (hm_w s), 0, 0) = some (some (.inl ((fn10_item_c41 s v1).1)), (hm_w ((fn10_item_c41 s v1).2))) := by
  unfold wp10_item_c41 at hp
  have i71 := @rc10_item_71
  refine am_lf_eq ?_
  generalize am_lf (am_mk kb10_item 0 0 22) [11, 16, 19, 41, 71, 73, 109] = kt at i71 ⊢
  refine am_if (c := (hm_thrown s) ≤ 0) (fun h1 => ?_) (fun h1 => ?_)
  · have q1 := hp.1 h1
    refine am_ci (c := am_inb v1 8 = true) q1.1 ?_
    refine am_ci (c := am_inb (((4 : Int32) * v1) + ((hm_counts s) (v1).toNatClampNeg)) 32 = true) q1.2.1 ?_
    refine am_sp (w' := (hm_w (ha_lengths s (((((4 : Int32) * v1) + ((hm_counts s) (v1).toNatClampNeg))).toNatClampNeg) (hm_typed s)))) (kp_R_0_lengths s (((((4 : Int32) * v1) + ((hm_counts s) (v1).toNatClampNeg))).toNatClampNeg) (hm_typed s)) ?_
    have e : fn10_item_c41 s v1 = fn10_item_c71 (ha_lengths s (((((4 : Int32) * v1) + ((hm_counts s) (v1).toNatClampNeg))).toNatClampNeg) (hm_typed s)) v1 (((4 : Int32) * v1) + ((hm_counts s) (v1).toNatClampNeg)) := by
      rw [fn10_item_c41]
      rw [if_pos h1]
    rw [e]
    exact i71 (ha_lengths s (((((4 : Int32) * v1) + ((hm_counts s) (v1).toNatClampNeg))).toNatClampNeg) (hm_typed s)) v1 (((4 : Int32) * v1) + ((hm_counts s) (v1).toNatClampNeg)) _ g3 q1.2.2
  · have e : fn10_item_c41 s v1 = ((0 : Int32), s) := by
      rw [fn10_item_c41]
      rw [if_neg h1]
    rw [e] <;> rfl
noncomputable def fn10_item_c19 (s : hs) (v1 : Int32) : Int32 × hs := (if (hm_thrown s) = 0 then (if ((hm_counts s) (v1).toNatClampNeg) = (4 : Int32) then (fn10_item_c41 (hu_thrown s (2 : Int32)) v1) else (fn10_item_c41 s v1)) else (fn10_item_c41 s v1))
def wp10_item_c19 (s : hs) (v1 : Int32) : Prop := (((hm_thrown s) = 0 → (am_inb v1 8 = true ∧ ((((hm_counts s) (v1).toNatClampNeg) = (4 : Int32) → (wp10_item_c41 (hu_thrown s (2 : Int32)) v1)) ∧ (¬ ((hm_counts s) (v1).toNatClampNeg) = (4 : Int32) → (wp10_item_c41 s v1))))) ∧ (¬ (hm_thrown s) = 0 → (wp10_item_c41 s v1)))
set_option maxRecDepth 100000 in
set_option maxHeartbeats 4000000 in
theorem rc10_item_19 (s : hs) (v1 : Int32) (j2 : Option am_V) (j3 : Option am_V) (g2 : am_loO 22 j2 = true) (g3 : am_loO 22 j3 = true) (hp : wp10_item_c19 s v1) : am_lf (am_mk kb10_item 0 0 22) [11, 16, 19, 41, 71, 73, 109] (19, [some (.inr (.inl 0)), some (.inl v1), j2, j3], [], (hm_w s), 0, 0) = some (some (.inl ((fn10_item_c19 s v1).1)), (hm_w ((fn10_item_c19 s v1).2))) := by
  unfold wp10_item_c19 at hp
  have i41 := @rc10_item_41
  refine am_lf_eq ?_
  generalize am_lf (am_mk kb10_item 0 0 22) [11, 16, 19, 41, 71, 73, 109] = kt at i41 ⊢
  refine am_if (c := (hm_thrown s) = 0) (fun h1 => ?_) (fun h1 => ?_)
  · have q1 := hp.1 h1
    refine am_ci (c := am_inb v1 8 = true) q1.1 ?_
    refine am_if (c := ((hm_counts s) (v1).toNatClampNeg) = (4 : Int32)) (fun h2 => ?_) (fun h2 => ?_)
    · have q2 := q1.2.1 h2
      refine am_sp (w' := (hm_w (hu_thrown s (2 : Int32)))) (kp_R_0_thrown s (2 : Int32)) ?_
      have e : fn10_item_c19 s v1 = fn10_item_c41 (hu_thrown s (2 : Int32)) v1 := by
        rw [fn10_item_c19]
        rw [if_pos h1, if_pos h2]
      rw [e]
      exact i41 (hu_thrown s (2 : Int32)) v1 _ _ g2 g3 q2
    · have q2 := q1.2.2 h2
      have e : fn10_item_c19 s v1 = fn10_item_c41 s v1 := by
        rw [fn10_item_c19]
        rw [if_pos h1, if_neg h2]
      rw [e]
      exact i41 s v1 _ _ g2 g3 q2
  · have q1 := hp.2 h1
    have e : fn10_item_c19 s v1 = fn10_item_c41 s v1 := by
      rw [fn10_item_c19]
      rw [if_neg h1]
    rw [e]
    exact i41 s v1 _ _ g2 g3 q1
noncomputable def fn10_item_c16 (s : hs) (v1 : Int32) (u0 : Int32) : Int32 × hs := (fn10_item_c19 (hu_thrown s u0) v1)
def wp10_item_c16 (s : hs) (v1 : Int32) (u0 : Int32) : Prop := (wp10_item_c19 (hu_thrown s u0) v1)
set_option maxRecDepth 100000 in
set_option maxHeartbeats 4000000 in
theorem rc10_item_16 (s : hs) (v1 : Int32) (u0 : Int32) (j2 : Option am_V) (j3 : Option am_V) (g2 : am_loO 22 j2 = true) (g3 : am_loO 22 j3 = true) (hp : wp10_item_c16 s v1 u0) : am_lf (am_mk kb10_item 0 0 22) [11, 16, 19, 41, 71, 73, 109] (16, [some (.inr (.inl 0)), some (.inl v1), j2, j3], [.inl u0, .inr (.inl 0)], (hm_w s), 0, 0) = some (some (.inl ((fn10_item_c16 s v1 u0).1)), (hm_w ((fn10_item_c16 s v1 u0).2))) := by
  unfold wp10_item_c16 at hp
  have i19 := @rc10_item_19
  refine am_lf_eq ?_
  generalize am_lf (am_mk kb10_item 0 0 22) [11, 16, 19, 41, 71, 73, 109] = kt at i19 ⊢
  refine am_sp (w' := (hm_w (hu_thrown s u0))) (kp_R_0_thrown s u0) ?_
  have e : fn10_item_c16 s v1 u0 = fn10_item_c19 (hu_thrown s u0) v1 := by
    rw [fn10_item_c16]
  rw [e]
  exact i19 (hu_thrown s u0) v1 _ _ g2 g3 hp
noncomputable def fn10_item_c11 (s : hs) (v1 : Int32) : Int32 × hs := (fn10_item_c16 s v1 (1 : Int32))
def wp10_item_c11 (s : hs) (v1 : Int32) : Prop := (wp10_item_c16 s v1 (1 : Int32))
set_option maxRecDepth 100000 in
set_option maxHeartbeats 4000000 in
theorem rc10_item_11 (s : hs) (v1 : Int32) (j2 : Option am_V) (j3 : Option am_V) (g2 : am_loO 22 j2 = true) (g3 : am_loO 22 j3 = true) (hp : wp10_item_c11 s v1) : am_lf (am_mk kb10_item 0 0 22) [11, 16, 19, 41, 71, 73, 109] (11, [some (.inr (.inl 0)), some (.inl v1), j2, j3], [.inr (.inl 0)], (hm_w s), 0, 0) = some (some (.inl ((fn10_item_c11 s v1).1)), (hm_w ((fn10_item_c11 s v1).2))) := by
  unfold wp10_item_c11 at hp
  have i16 := @rc10_item_16
  refine am_lf_eq ?_
  generalize am_lf (am_mk kb10_item 0 0 22) [11, 16, 19, 41, 71, 73, 109] = kt at i16 ⊢
  have e : fn10_item_c11 s v1 = fn10_item_c16 s v1 (1 : Int32) := by
    rw [fn10_item_c11]
  rw [e]
  exact i16 s v1 (1 : Int32) _ _ g2 g3 hp
noncomputable def fn10_item (s : hs) (p0 : Int32) : Int32 × hs := Classical.choose (⟨_, rfl⟩ : ∃ z : Int32 × hs, z = (if p0 < 0 then (fn10_item_c11 s p0) else (if p0 ≤ (7 : Int32) then (fn10_item_c16 s p0 (0 : Int32)) else (fn10_item_c11 s p0))))
theorem fq10_item (s : hs) (p0 : Int32) : fn10_item s p0 = (if p0 < 0 then (fn10_item_c11 s p0) else (if p0 ≤ (7 : Int32) then (fn10_item_c16 s p0 (0 : Int32)) else (fn10_item_c11 s p0))) := Classical.choose_spec (⟨_, rfl⟩ : ∃ z : Int32 × hs, z = (if p0 < 0 then (fn10_item_c11 s p0) else (if p0 ≤ (7 : Int32) then (fn10_item_c16 s p0 (0 : Int32)) else (fn10_item_c11 s p0))))
def wp10_item (s : hs) (p0 : Int32) : Prop := ((p0 < 0 → (wp10_item_c11 s p0)) ∧ (¬ p0 < 0 → ((p0 ≤ (7 : Int32) → (wp10_item_c16 s p0 (0 : Int32))) ∧ (¬ p0 ≤ (7 : Int32) → (wp10_item_c11 s p0)))))
set_option maxRecDepth 100000 in
set_option maxHeartbeats 4000000 in
theorem re10_item (s : hs) (p0 : Int32) (hp : wp10_item s p0) : am_lf (am_mk kb10_item 0 0 22) [11, 16, 19, 41, 71, 73, 109] (0, am_L0 [.inr (.inl 0), .inl p0] 4, [], (hm_w s), 0, 0) = some (some (.inl ((fn10_item s p0).1)), (hm_w ((fn10_item s p0).2))) := by
  unfold wp10_item at hp
  have i11 := @rc10_item_11
  have i16 := @rc10_item_16
  refine am_lf_eq ?_
  generalize am_lf (am_mk kb10_item 0 0 22) [11, 16, 19, 41, 71, 73, 109] = kt at i11 i16 ⊢
  refine am_if (c := p0 < 0) (fun h1 => ?_) (fun h1 => ?_)
  · have q1 := hp.1 h1
    have e : fn10_item s p0 = fn10_item_c11 s p0 := by
      rw [fq10_item]
      rw [if_pos h1]
    rw [e]
    exact i11 s p0 _ _ rfl rfl q1
  · have q1 := hp.2 h1
    refine am_if (c := p0 ≤ (7 : Int32)) (fun h2 => ?_) (fun h2 => ?_)
    · have q2 := q1.1 h2
      have e : fn10_item s p0 = fn10_item_c16 s p0 (0 : Int32) := by
        rw [fq10_item]
        rw [if_neg h1, if_pos h2]
      rw [e]
      exact i16 s p0 (0 : Int32) _ _ rfl rfl q2
    · have q2 := q1.2 h2
      have e : fn10_item s p0 = fn10_item_c11 s p0 := by
        rw [fq10_item]
        rw [if_neg h1, if_neg h2]
      rw [e]
      exact i11 s p0 _ _ rfl rfl q2
abbrev pr10_item : List am_V → List am_C → Prop := fun a w => ∃ (s : hs) (p0 : Int32), a = [.inr (.inl 0), .inl p0] ∧ w = (hm_w s) ∧ wp10_item s p0
noncomputable def fm10_item : am_M := fun a w => (fun (z : Int32 × hs) => (some (.inl (z.1)), (hm_w (z.2)), 0, 0)) (fn10_item (hm_st w 0) (am_i (am_an a 1)))
theorem fe10_item (s : hs) (p0 : Int32) : fm10_item [.inr (.inl 0), .inl p0] (hm_w s) = (some (.inl ((fn10_item s p0).1)), (hm_w ((fn10_item s p0).2)), 0, 0) := rfl
set_option maxRecDepth 100000 in
set_option maxHeartbeats 4000000 in
theorem rn10_item : ∀ (a : List am_V) (w : List am_C), pr10_item a w → ∃ nq, am_ev (am_mk kb10_item (fm10_item a w).2.2.1 (fm10_item a w).2.2.2 w.length) [11, 16, 19, 41, 71, 73, 109] nq (0, am_L0 a 4, [], w, 0, 0) = some ((fm10_item a w).1, (fm10_item a w).2.1) := by
  rintro a w ⟨s, p0, rfl, rfl, hp⟩
  rw [fe10_item s p0]
  exact am_lf_ev (re10_item s p0 hp)
theorem rl10_item : ∀ (a : List am_V) (w : List am_C), pr10_item a w → a.length ≤ 4 := by
  rintro a w ⟨s, p0, rfl, rfl, hp⟩
  exact Nat.le_of_ble_eq_true rfl
theorem pa10_item : ∀ a w, pr10_item a w → ∃ q a' ci fs r, a = .inr (.inl q) :: a' ∧ w[q]? = some (.inr (ci, fs)) ∧ hn_cl[ci]? = some r ∧ r.1 = hn_R10 := by
  rintro a w ⟨s, p0, rfl, rfl, hp⟩
  exact ⟨0, _, 10, _, _, rfl, rfl, rfl, rfl⟩
set_option maxRecDepth 100000 in
set_option maxHeartbeats 4000000 in
theorem km10_item {l : Launch} {E : (Nat → Prop) → State → Prop} {D : va_G} {ou : Nat → Nat} {ca : Nat → ClassId} (hE : am_EC E) : hg_Met l E D ou ca hy10_item prog_12_method_51_code 4 (some .int) 0 pr10_item fm10_item := by
  refine am_met (B := kb10_item) (cuts := [11, 16, 19, 41, 71, 73, 109]) (nt := 5) (by decide +kernel) rfl rfl (hg_tys_ok ca) ?_ (by decide) rl10_item ?_ rn10_item
  · exact fun t ht => List.mem_cons_of_mem _ (hg_arr t ht)
  · intro a w hp ad p e R s m args below meth c hR X hEs hnm
    have hR1 : 0 ≤ R.frames ∧ 0 ≤ R.locals := by rw [hR]; exact ⟨Nat.le_refl _, Nat.le_refl _⟩
    refine ⟨kd10_item_ok, fun index ci fi mode hq => kf10_ok X.2.2.2.2.1 (index, ci, fi, mode) (am_as_mem hq), fun index ci fs hq => (am_no hq).elim, fun x v hq => (am_no hq).elim, ?_, fun o t n f hq => (am_no hq).elim, rfl, rfl, by rw [hR]; exact Nat.le_refl _, by rw [hR]; exact Nat.le_refl _⟩
    intro pc sel n0 pre0 f0 hq
    exact (am_no hq).elim
