noncomputable def ki10_openPiece : List (Nat × Option (List Nat) × Nat × (List am_V → List am_C → Prop) × am_M) := [(2, none, 2, pr10_ch, fm10_ch), (10, none, 2, pr10_ch, fm10_ch)]
noncomputable def kb10_openPiece : am_B := (kd10_openPiece, am_as kf10, hn_ty, fun _ => none, fun _ => none, am_as ki10_openPiece, fun _ => none, 5, 5, (some .int))
noncomputable def fn10_openPiece_c52 (s : hs) (u0 : Int32) : Int32 × hs := ((2 : Int32), (hu_part s u0))
def wp10_openPiece_c52 (s : hs) (u0 : Int32) : Prop := True
set_option maxRecDepth 100000 in
set_option maxHeartbeats 4000000 in
theorem rc10_openPiece_52 (s : hs) (u0 : Int32) (j1 : Option am_V) (j2 : Option am_V) (j3 : Option am_V) (j4 : Option am_V) (g1 : am_loO 22 j1 = true) (g2 : am_loO 22 j2 = true) (g3 : am_loO 22 j3 = true) (g4 : am_loO 22 j4 = true) (hp : wp10_openPiece_c52 s u0) : am_lf (am_mk kb10_openPiece 0 0 22) [39, 52, 57, 94] (52, [some (.inr (.inl 0)), j1, j2, j3, j4], [.inl u0, .inr (.inl 0)], (hm_w s), 0, 0) = some (some (.inl ((fn10_openPiece_c52 s u0).1)), (hm_w ((fn10_openPiece_c52 s u0).2))) := by
  unfold wp10_openPiece_c52 at hp
  refine am_lf_eq ?_
  generalize am_lf (am_mk kb10_openPiece 0 0 22) [39, 52, 57, 94] = kt
  refine am_sp (w' := (hm_w (hu_part s u0))) (kp_R_0_part s u0) ?_
  have e : fn10_openPiece_c52 s u0 = ((2 : Int32), (hu_part s u0)) := by
    rw [fn10_openPiece_c52]
  rw [e] <;> rfl
noncomputable def fn10_openPiece_c39 (s : hs) (v4 : Int32) : Int32 × hs := (if v4 = (42 : Int32) then (fn10_openPiece_c52 s (4 : Int32)) else (fn10_openPiece_c52 s (3 : Int32)))
def wp10_openPiece_c39 (s : hs) (v4 : Int32) : Prop := ((v4 = (42 : Int32) → (wp10_openPiece_c52 s (4 : Int32))) ∧ (¬ v4 = (42 : Int32) → (wp10_openPiece_c52 s (3 : Int32))))
set_option maxRecDepth 100000 in
set_option maxHeartbeats 4000000 in
theorem rc10_openPiece_39 (s : hs) (v4 : Int32) (j1 : Option am_V) (j2 : Option am_V) (j3 : Option am_V) (g1 : am_loO 22 j1 = true) (g2 : am_loO 22 j2 = true) (g3 : am_loO 22 j3 = true) (hp : wp10_openPiece_c39 s v4) : am_lf (am_mk kb10_openPiece 0 0 22) [39, 52, 57, 94] (39, [some (.inr (.inl 0)), j1, j2, j3, some (.inl v4)], [], (hm_w s), 0, 0) = some (some (.inl ((fn10_openPiece_c39 s v4).1)), (hm_w ((fn10_openPiece_c39 s v4).2))) := by
  unfold wp10_openPiece_c39 at hp
  have i52 := @rc10_openPiece_52
  refine am_lf_eq ?_
  generalize am_lf (am_mk kb10_openPiece 0 0 22) [39, 52, 57, 94] = kt at i52 ⊢
  refine am_if (c := v4 = (42 : Int32)) (fun h1 => ?_) (fun h1 => ?_)
  · have q1 := hp.1 h1
    have e : fn10_openPiece_c39 s v4 = fn10_openPiece_c52 s (4 : Int32) := by
      rw [fn10_openPiece_c39]
      rw [if_pos h1]
    rw [e]
    exact i52 s (4 : Int32) _ _ _ _ g1 g2 g3 rfl q1
  · have q1 := hp.2 h1
    have e : fn10_openPiece_c39 s v4 = fn10_openPiece_c52 s (3 : Int32) := by
      rw [fn10_openPiece_c39]
      rw [if_neg h1]
    rw [e]
    exact i52 s (3 : Int32) _ _ _ _ g1 g2 g3 rfl q1
noncomputable def fn10_openPiece_c57 (s : hs) (v2 : Int32) (v4 : Int32) : Int32 × hs := (if v2 = 0 then ((0 : Int32), s) else (if v4 = 0 then ((0 : Int32), s) else ((1 : Int32), s)))
def wp10_openPiece_c57 (s : hs) (v2 : Int32) (v4 : Int32) : Prop := True
set_option maxRecDepth 100000 in
set_option maxHeartbeats 4000000 in
theorem rc10_openPiece_57 (s : hs) (v2 : Int32) (v4 : Int32) (j1 : Option am_V) (j3 : Option am_V) (g1 : am_loO 22 j1 = true) (g3 : am_loO 22 j3 = true) (hp : wp10_openPiece_c57 s v2 v4) : am_lf (am_mk kb10_openPiece 0 0 22) [39, 52, 57, 94] (57, [some (.inr (.inl 0)), j1, some (.inl v2), j3, some (.inl v4)], [], (hm_w s), 0, 0) = some (some (.inl ((fn10_openPiece_c57 s v2 v4).1)), (hm_w ((fn10_openPiece_c57 s v2 v4).2))) := by
  unfold wp10_openPiece_c57 at hp
  refine am_lf_eq ?_
  generalize am_lf (am_mk kb10_openPiece 0 0 22) [39, 52, 57, 94] = kt
  refine am_if (c := v2 = 0) (fun h1 => ?_) (fun h1 => ?_)
  · have e : fn10_openPiece_c57 s v2 v4 = ((0 : Int32), s) := by
      rw [fn10_openPiece_c57]
      rw [if_pos h1]
    rw [e] <;> rfl
  · refine am_if (c := v4 = 0) (fun h2 => ?_) (fun h2 => ?_)
    · have e : fn10_openPiece_c57 s v2 v4 = ((0 : Int32), s) := by
        rw [fn10_openPiece_c57]
        rw [if_neg h1, if_pos h2]
      rw [e] <;> rfl
    · have e : fn10_openPiece_c57 s v2 v4 = ((1 : Int32), s) := by
        rw [fn10_openPiece_c57]
        rw [if_neg h1, if_neg h2]
      rw [e] <;> rfl
noncomputable def fn10_openPiece_c94 (s : hs) (v2 : Int32) (v3 : Int32) (u0 : Int32) : Int32 × hs := (if v3 = (96 : Int32) then (if v2 = 0 then ((0 : Int32), (hu_part s u0)) else ((1 : Int32), (hu_part s u0))) else ((1 : Int32), (hu_part s u0)))
def wp10_openPiece_c94 (s : hs) (v2 : Int32) (v3 : Int32) (u0 : Int32) : Prop := True
set_option maxRecDepth 100000 in
set_option maxHeartbeats 4000000 in
theorem rc10_openPiece_94 (s : hs) (v2 : Int32) (v3 : Int32) (u0 : Int32) (j1 : Option am_V) (j4 : Option am_V) (g1 : am_loO 22 j1 = true) (g4 : am_loO 22 j4 = true) (hp : wp10_openPiece_c94 s v2 v3 u0) : am_lf (am_mk kb10_openPiece 0 0 22) [39, 52, 57, 94] (94, [some (.inr (.inl 0)), j1, some (.inl v2), some (.inl v3), j4], [.inl u0, .inr (.inl 0)], (hm_w s), 0, 0) = some (some (.inl ((fn10_openPiece_c94 s v2 v3 u0).1)), (hm_w ((fn10_openPiece_c94 s v2 v3 u0).2))) := by
  unfold wp10_openPiece_c94 at hp
  refine am_lf_eq ?_
  generalize am_lf (am_mk kb10_openPiece 0 0 22) [39, 52, 57, 94] = kt
  refine am_sp (w' := (hm_w (hu_part s u0))) (kp_R_0_part s u0) ?_
  refine am_if (c := v3 = (96 : Int32)) (fun h1 => ?_) (fun h1 => ?_)
  · refine am_if (c := v2 = 0) (fun h2 => ?_) (fun h2 => ?_)
    · have e : fn10_openPiece_c94 s v2 v3 u0 = ((0 : Int32), (hu_part s u0)) := by
        rw [fn10_openPiece_c94]
        rw [if_pos h1, if_pos h2]
      rw [e] <;> rfl
    · have e : fn10_openPiece_c94 s v2 v3 u0 = ((1 : Int32), (hu_part s u0)) := by
        rw [fn10_openPiece_c94]
        rw [if_pos h1, if_neg h2]
      rw [e] <;> rfl
  · have e : fn10_openPiece_c94 s v2 v3 u0 = ((1 : Int32), (hu_part s u0)) := by
      rw [fn10_openPiece_c94]
      rw [if_neg h1]
    rw [e] <;> rfl
noncomputable def fn10_openPiece (s : hs) (p0 : Int32) (p1 : Int32) : Int32 × hs := Classical.choose (⟨_, rfl⟩ : ∃ z : Int32 × hs, z = (if (fn10_ch s p0) = (47 : Int32) then (if (fn10_ch s (p0 + (1 : Int32))) = (42 : Int32) then (fn10_openPiece_c39 s (fn10_ch s (p0 + (1 : Int32)))) else (if (fn10_ch s (p0 + (1 : Int32))) = (47 : Int32) then (if p1 = 0 then (fn10_openPiece_c39 s (fn10_ch s (p0 + (1 : Int32)))) else (fn10_openPiece_c57 s p1 (fn10_ch s (p0 + (1 : Int32))))) else (fn10_openPiece_c57 s p1 (fn10_ch s (p0 + (1 : Int32)))))) else (if (fn10_ch s p0) = (39 : Int32) then (fn10_openPiece_c94 s p1 (fn10_ch s p0) (1 : Int32)) else (if (fn10_ch s p0) = (34 : Int32) then (fn10_openPiece_c94 s p1 (fn10_ch s p0) (2 : Int32)) else (fn10_openPiece_c94 s p1 (fn10_ch s p0) (0 : Int32))))))
theorem fq10_openPiece (s : hs) (p0 : Int32) (p1 : Int32) : fn10_openPiece s p0 p1 = (if (fn10_ch s p0) = (47 : Int32) then (if (fn10_ch s (p0 + (1 : Int32))) = (42 : Int32) then (fn10_openPiece_c39 s (fn10_ch s (p0 + (1 : Int32)))) else (if (fn10_ch s (p0 + (1 : Int32))) = (47 : Int32) then (if p1 = 0 then (fn10_openPiece_c39 s (fn10_ch s (p0 + (1 : Int32)))) else (fn10_openPiece_c57 s p1 (fn10_ch s (p0 + (1 : Int32))))) else (fn10_openPiece_c57 s p1 (fn10_ch s (p0 + (1 : Int32)))))) else (if (fn10_ch s p0) = (39 : Int32) then (fn10_openPiece_c94 s p1 (fn10_ch s p0) (1 : Int32)) else (if (fn10_ch s p0) = (34 : Int32) then (fn10_openPiece_c94 s p1 (fn10_ch s p0) (2 : Int32)) else (fn10_openPiece_c94 s p1 (fn10_ch s p0) (0 : Int32))))) := Classical.choose_spec (⟨_, rfl⟩ : ∃ z : Int32 × hs, z = (if (fn10_ch s p0) = (47 : Int32) then (if (fn10_ch s (p0 + (1 : Int32))) = (42 : Int32) then (fn10_openPiece_c39 s (fn10_ch s (p0 + (1 : Int32)))) else (if (fn10_ch s (p0 + (1 : Int32))) = (47 : Int32) then (if p1 = 0 then (fn10_openPiece_c39 s (fn10_ch s (p0 + (1 : Int32)))) else (fn10_openPiece_c57 s p1 (fn10_ch s (p0 + (1 : Int32))))) else (fn10_openPiece_c57 s p1 (fn10_ch s (p0 + (1 : Int32)))))) else (if (fn10_ch s p0) = (39 : Int32) then (fn10_openPiece_c94 s p1 (fn10_ch s p0) (1 : Int32)) else (if (fn10_ch s p0) = (34 : Int32) then (fn10_openPiece_c94 s p1 (fn10_ch s p0) (2 : Int32)) else (fn10_openPiece_c94 s p1 (fn10_ch s p0) (0 : Int32))))))
def wp10_openPiece (s : hs) (p0 : Int32) (p1 : Int32) : Prop := ((wp10_ch s p0) ∧ ((wp10_ch s (p0 + (1 : Int32))) ∧ (((fn10_ch s p0) = (47 : Int32) → (((fn10_ch s (p0 + (1 : Int32))) = (42 : Int32) → (wp10_openPiece_c39 s (fn10_ch s (p0 + (1 : Int32))))) ∧ (¬ (fn10_ch s (p0 + (1 : Int32))) = (42 : Int32) → (((fn10_ch s (p0 + (1 : Int32))) = (47 : Int32) → ((p1 = 0 → (wp10_openPiece_c39 s (fn10_ch s (p0 + (1 : Int32))))) ∧ (¬ p1 = 0 → (wp10_openPiece_c57 s p1 (fn10_ch s (p0 + (1 : Int32))))))) ∧ (¬ (fn10_ch s (p0 + (1 : Int32))) = (47 : Int32) → (wp10_openPiece_c57 s p1 (fn10_ch s (p0 + (1 : Int32))))))))) ∧ (¬ (fn10_ch s p0) = (47 : Int32) → (((fn10_ch s p0) = (39 : Int32) → (wp10_openPiece_c94 s p1 (fn10_ch s p0) (1 : Int32))) ∧ (¬ (fn10_ch s p0) = (39 : Int32) → (((fn10_ch s p0) = (34 : Int32) → (wp10_openPiece_c94 s p1 (fn10_ch s p0) (2 : Int32))) ∧ (¬ (fn10_ch s p0) = (34 : Int32) → (wp10_openPiece_c94 s p1 (fn10_ch s p0) (0 : Int32))))))))))
set_option maxRecDepth 100000 in
set_option maxHeartbeats 4000000 in
theorem re10_openPiece (s : hs) (p0 : Int32) (p1 : Int32) (hp : wp10_openPiece s p0 p1) : am_lf (am_mk kb10_openPiece 0 0 22) [39, 52, 57, 94] (0, am_L0 [.inr (.inl 0), .inl p0, .inl p1] 5, [], (hm_w s), 0, 0) = some (some (.inl ((fn10_openPiece s p0 p1).1)), (hm_w ((fn10_openPiece s p0 p1).2))) := by
  unfold wp10_openPiece at hp
  have i39 := @rc10_openPiece_39
  have i57 := @rc10_openPiece_57
  have i94 := @rc10_openPiece_94
  refine am_lf_eq ?_
  generalize am_lf (am_mk kb10_openPiece 0 0 22) [39, 52, 57, 94] = kt at i39 i57 i94 ⊢
  refine am_cx (pre := pr10_ch) (f := fm10_ch) (r := (some (.inl (fn10_ch s p0)), (hm_w s), 0, 0)) ?_ ?_ ?_ ?_
  · exact ⟨s, p0, rfl, rfl, hp.1⟩
  · exact fe10_ch s p0
  · exact rfl
  refine am_cx (pre := pr10_ch) (f := fm10_ch) (r := (some (.inl (fn10_ch s (p0 + (1 : Int32)))), (hm_w s), 0, 0)) ?_ ?_ ?_ ?_
  · exact ⟨s, (p0 + (1 : Int32)), rfl, rfl, hp.2.1⟩
  · exact fe10_ch s (p0 + (1 : Int32))
  · exact rfl
  refine am_if (c := (fn10_ch s p0) = (47 : Int32)) (fun h1 => ?_) (fun h1 => ?_)
  · have q1 := hp.2.2.1 h1
    refine am_if (c := (fn10_ch s (p0 + (1 : Int32))) = (42 : Int32)) (fun h2 => ?_) (fun h2 => ?_)
    · have q2 := q1.1 h2
      have e : fn10_openPiece s p0 p1 = fn10_openPiece_c39 s (fn10_ch s (p0 + (1 : Int32))) := by
        rw [fq10_openPiece]
        rw [if_pos h1, if_pos h2]
      rw [e]
      exact i39 s (fn10_ch s (p0 + (1 : Int32))) _ _ _ rfl rfl rfl q2
    · have q2 := q1.2 h2
      refine am_if (c := (fn10_ch s (p0 + (1 : Int32))) = (47 : Int32)) (fun h3 => ?_) (fun h3 => ?_)
      · have q3 := q2.1 h3
        refine am_if (c := p1 = 0) (fun h4 => ?_) (fun h4 => ?_)
        · have q4 := q3.1 h4
          have e : fn10_openPiece s p0 p1 = fn10_openPiece_c39 s (fn10_ch s (p0 + (1 : Int32))) := by
            rw [fq10_openPiece]
            rw [if_pos h1, if_neg h2, if_pos h3, if_pos h4]
          rw [e]
          exact i39 s (fn10_ch s (p0 + (1 : Int32))) _ _ _ rfl rfl rfl q4
        · have q4 := q3.2 h4
          have e : fn10_openPiece s p0 p1 = fn10_openPiece_c57 s p1 (fn10_ch s (p0 + (1 : Int32))) := by
            rw [fq10_openPiece]
            rw [if_pos h1, if_neg h2, if_pos h3, if_neg h4]
          rw [e]
          exact i57 s p1 (fn10_ch s (p0 + (1 : Int32))) _ _ rfl rfl q4
      · have q3 := q2.2 h3
        have e : fn10_openPiece s p0 p1 = fn10_openPiece_c57 s p1 (fn10_ch s (p0 + (1 : Int32))) := by
          rw [fq10_openPiece]
          rw [if_pos h1, if_neg h2, if_neg h3]
        rw [e]
        exact i57 s p1 (fn10_ch s (p0 + (1 : Int32))) _ _ rfl rfl q3
  · have q1 := hp.2.2.2 h1
    refine am_if (c := (fn10_ch s p0) = (39 : Int32)) (fun h2 => ?_) (fun h2 => ?_)
    · have q2 := q1.1 h2
      have e : fn10_openPiece s p0 p1 = fn10_openPiece_c94 s p1 (fn10_ch s p0) (1 : Int32) := by
        rw [fq10_openPiece]
        rw [if_neg h1, if_pos h2]
      rw [e]
      exact i94 s p1 (fn10_ch s p0) (1 : Int32) _ _ rfl rfl q2
    · have q2 := q1.2 h2
      refine am_if (c := (fn10_ch s p0) = (34 : Int32)) (fun h3 => ?_) (fun h3 => ?_)
      · have q3 := q2.1 h3
        have e : fn10_openPiece s p0 p1 = fn10_openPiece_c94 s p1 (fn10_ch s p0) (2 : Int32) := by
          rw [fq10_openPiece]
          rw [if_neg h1, if_neg h2, if_pos h3]
        rw [e]
        exact i94 s p1 (fn10_ch s p0) (2 : Int32) _ _ rfl rfl q3
      · have q3 := q2.2 h3
        have e : fn10_openPiece s p0 p1 = fn10_openPiece_c94 s p1 (fn10_ch s p0) (0 : Int32) := by
          rw [fq10_openPiece]
          rw [if_neg h1, if_neg h2, if_neg h3]
        rw [e]
        exact i94 s p1 (fn10_ch s p0) (0 : Int32) _ _ rfl rfl q3
abbrev pr10_openPiece : List am_V → List am_C → Prop := fun a w => ∃ (s : hs) (p0 : Int32) (p1 : Int32), a = [.inr (.inl 0), .inl p0, .inl p1] ∧ w = (hm_w s) ∧ wp10_openPiece s p0 p1
noncomputable def fm10_openPiece : am_M := fun a w => (fun (z : Int32 × hs) => (some (.inl (z.1)), (hm_w (z.2)), 0, 0)) (fn10_openPiece (hm_st w 0) (am_i (am_an a 1)) (am_i (am_an a 2)))
theorem fe10_openPiece (s : hs) (p0 : Int32) (p1 : Int32) : fm10_openPiece [.inr (.inl 0), .inl p0, .inl p1] (hm_w s) = (some (.inl ((fn10_openPiece s p0 p1).1)), (hm_w ((fn10_openPiece s p0 p1).2)), 0, 0) := rfl
set_option maxRecDepth 100000 in
set_option maxHeartbeats 4000000 in
theorem rn10_openPiece : ∀ (a : List am_V) (w : List am_C), pr10_openPiece a w → ∃ nq, am_ev (am_mk kb10_openPiece (fm10_openPiece a w).2.2.1 (fm10_openPiece a w).2.2.2 w.length) [39, 52, 57, 94] nq (0, am_L0 a 5, [], w, 0, 0) = some ((fm10_openPiece a w).1, (fm10_openPiece a w).2.1) := by
  rintro a w ⟨s, p0, p1, rfl, rfl, hp⟩
  rw [fe10_openPiece s p0 p1]
  exact am_lf_ev (re10_openPiece s p0 p1 hp)
theorem rl10_openPiece : ∀ (a : List am_V) (w : List am_C), pr10_openPiece a w → a.length ≤ 5 := by
  rintro a w ⟨s, p0, p1, rfl, rfl, hp⟩
  exact Nat.le_of_ble_eq_true rfl
theorem pa10_openPiece : ∀ a w, pr10_openPiece a w → ∃ q a' ci fs r, a = .inr (.inl q) :: a' ∧ w[q]? = some (.inr (ci, fs)) ∧ hn_cl[ci]? = some r ∧ r.1 = hn_R10 := by
  rintro a w ⟨s, p0, p1, rfl, rfl, hp⟩
  exact ⟨0, _, 10, _, _, rfl, rfl, rfl, rfl⟩
set_option maxRecDepth 100000 in
set_option maxHeartbeats 4000000 in
theorem km10_openPiece {l : Launch} {E : (Nat → Prop) → State → Prop} {D : va_G} {ou : Nat → Nat} {ca : Nat → ClassId} (hE : am_EC E) : hg_Met l E D ou ca hy10_openPiece prog_12_method_31_code 5 (some .int) 1 pr10_openPiece fm10_openPiece := by
  refine am_met (B := kb10_openPiece) (cuts := [39, 52, 57, 94]) (nt := 5) (by decide +kernel) rfl rfl (hg_tys_ok ca) ?_ (by decide) rl10_openPiece ?_ rn10_openPiece
  · exact fun t ht => List.mem_cons_of_mem _ (hg_arr t ht)
  · intro a w hp ad p e R s m args below meth c hR X hEs hnm
    have hR1 : 1 ≤ R.frames ∧ 40 ≤ R.locals := by rw [hR]; exact ⟨Nat.le_refl _, Nat.le_refl _⟩
    refine ⟨kd10_openPiece_ok, fun index ci fi mode hq => kf10_ok X.2.2.2.2.1 (index, ci, fi, mode) (am_as_mem hq), fun index ci fs hq => (am_no hq).elim, fun x v hq => (am_no hq).elim, ?_, fun o t n f hq => (am_no hq).elim, rfl, rfl, by rw [hR]; exact Nat.le_refl _, by rw [hR]; exact Nat.le_refl _⟩
    intro pc sel n0 pre0 f0 hq
    have hz : ∀ q ∈ ki10_openPiece, am_CK p l e R s m args below meth c D hn_cl (va_A (am_w ad ou ca w) s.heap.size) ou ca 5 q.1 q.2.2.1 q.2.2.2.1 q.2.2.2.2 := by
      refine am_allc (am_ck_V (n := 1) X hEs hE (km10_ch hE) (hg_good (gw_mem 1147 (by decide +kernel))) rfl (List.mem_cons_of_mem _ (gw_mem 76 (by decide +kernel))) (List.mem_cons_of_mem _ (gw_mem 1144 (by decide +kernel))) (List.mem_cons_of_mem _ (gw_mem 1146 (by decide +kernel))) (List.mem_cons_of_mem _ (gw_mem 21 (by decide +kernel))) pa10_ch (by decide +kernel) ⟨Nat.le_trans (by decide) hR1.1, Nat.le_trans (by decide) hR1.2⟩ (kd10_openPiece_ok (2, .invokevirtual 114, 3) (List.mem_of_getElem? (i := 2) rfl))) (am_allc (am_ck_V (n := 1) X hEs hE (km10_ch hE) (hg_good (gw_mem 1147 (by decide +kernel))) rfl (List.mem_cons_of_mem _ (gw_mem 76 (by decide +kernel))) (List.mem_cons_of_mem _ (gw_mem 1144 (by decide +kernel))) (List.mem_cons_of_mem _ (gw_mem 1146 (by decide +kernel))) (List.mem_cons_of_mem _ (gw_mem 21 (by decide +kernel))) pa10_ch (by decide +kernel) ⟨Nat.le_trans (by decide) hR1.1, Nat.le_trans (by decide) hR1.2⟩ (kd10_openPiece_ok (10, .invokevirtual 114, 3) (List.mem_of_getElem? (i := 8) rfl))) (am_all0))
    exact hz _ (am_as_mem hq)
noncomputable def ki10_stringPiece : List (Nat × Option (List Nat) × Nat × (List am_V → List am_C → Prop) × am_M) := [(2, none, 2, pr10_ch, fm10_ch), (10, none, 2, pr10_ch, fm10_ch)]
noncomputable def kb10_stringPiece : am_B := (kd10_stringPiece, am_as kf10, hn_ty, fun _ => none, fun _ => none, am_as ki10_stringPiece, fun _ => none, 5, 4, (some .int))
noncomputable def fn10_stringPiece_c78 (s : hs) : Int32 × hs := ((0 : Int32), s)
def wp10_stringPiece_c78 (s : hs) : Prop := True
set_option maxRecDepth 100000 in
set_option maxHeartbeats 4000000 in
theorem rc10_stringPiece_78 (s : hs) (j1 : Option am_V) (j2 : Option am_V) (j3 : Option am_V) (g1 : am_loO 22 j1 = true) (g2 : am_loO 22 j2 = true) (g3 : am_loO 22 j3 = true) (hp : wp10_stringPiece_c78 s) : am_lf (am_mk kb10_stringPiece 0 0 22) [30, 78] (78, [some (.inr (.inl 0)), j1, j2, j3], [], (hm_w s), 0, 0) = some (some (.inl ((fn10_stringPiece_c78 s).1)), (hm_w ((fn10_stringPiece_c78 s).2))) := by
  unfold wp10_stringPiece_c78 at hp
  refine am_lf_eq ?_
  generalize am_lf (am_mk kb10_stringPiece 0 0 22) [30, 78] = kt
  have e : fn10_stringPiece_c78 s = ((0 : Int32), s) := by
    rw [fn10_stringPiece_c78]
  rw [e] <;> rfl
noncomputable def fn10_stringPiece_c30 (s : hs) (v2 : Int32) (v3 : Int32) (u0 : Int32) (u1 : Int32) : Int32 × hs := (if u1 = u0 then ((1 : Int32), (hu_part s (0 : Int32))) else (if v2 = (92 : Int32) then (if v3 = 0 then (fn10_stringPiece_c78 s) else (if v3 = (60 : Int32) then (fn10_stringPiece_c78 s) else (if v3 = (38 : Int32) then (fn10_stringPiece_c78 s) else (if (hm_context s) = (2 : Int32) then (if v3 = (hm_quote s) then (fn10_stringPiece_c78 s) else ((2 : Int32), s)) else ((2 : Int32), s))))) else (if v2 = (10 : Int32) then ((0 : Int32), s) else ((1 : Int32), s))))
def wp10_stringPiece_c30 (s : hs) (v2 : Int32) (v3 : Int32) (u0 : Int32) (u1 : Int32) : Prop := ((u1 = u0 → True) ∧ (¬ u1 = u0 → ((v2 = (92 : Int32) → ((v3 = 0 → (wp10_stringPiece_c78 s)) ∧ (¬ v3 = 0 → ((v3 = (60 : Int32) → (wp10_stringPiece_c78 s)) ∧ (¬ v3 = (60 : Int32) → ((v3 = (38 : Int32) → (wp10_stringPiece_c78 s)) ∧ (¬ v3 = (38 : Int32) → (((hm_context s) = (2 : Int32) → ((v3 = (hm_quote s) → (wp10_stringPiece_c78 s)) ∧ (¬ v3 = (hm_quote s) → True))) ∧ (¬ (hm_context s) = (2 : Int32) → True))))))))) ∧ (¬ v2 = (92 : Int32) → True))))
set_option maxRecDepth 100000 in
set_option maxHeartbeats 4000000 in
theorem rc10_stringPiece_30 (s : hs) (v2 : Int32) (v3 : Int32) (u0 : Int32) (u1 : Int32) (j1 : Option am_V) (g1 : am_loO 22 j1 = true) (hp : wp10_stringPiece_c30 s v2 v3 u0 u1) : am_lf (am_mk kb10_stringPiece 0 0 22) [30, 78] (30, [some (.inr (.inl 0)), j1, some (.inl v2), some (.inl v3)], [.inl u0, .inl u1], (hm_w s), 0, 0) = some (some (.inl ((fn10_stringPiece_c30 s v2 v3 u0 u1).1)), (hm_w ((fn10_stringPiece_c30 s v2 v3 u0 u1).2))) := by
  unfold wp10_stringPiece_c30 at hp
  have i78 := @rc10_stringPiece_78
  refine am_lf_eq ?_
  generalize am_lf (am_mk kb10_stringPiece 0 0 22) [30, 78] = kt at i78 ⊢
  refine am_if (c := u1 = u0) (fun h1 => ?_) (fun h1 => ?_)
  · refine am_sp (w' := (hm_w (hu_part s (0 : Int32)))) (kp_R_0_part s (0 : Int32)) ?_
    have e : fn10_stringPiece_c30 s v2 v3 u0 u1 = ((1 : Int32), (hu_part s (0 : Int32))) := by
      rw [fn10_stringPiece_c30]
      rw [if_pos h1]
    rw [e] <;> rfl
  · have q1 := hp.2 h1
    refine am_if (c := v2 = (92 : Int32)) (fun h2 => ?_) (fun h2 => ?_)
    · have q2 := q1.1 h2
      refine am_if (c := v3 = 0) (fun h3 => ?_) (fun h3 => ?_)
      · have q3 := q2.1 h3
        have e : fn10_stringPiece_c30 s v2 v3 u0 u1 = fn10_stringPiece_c78 s := by
          rw [fn10_stringPiece_c30]
          rw [if_neg h1, if_pos h2, if_pos h3]
        rw [e]
        exact i78 s _ _ _ g1 rfl rfl q3
      · have q3 := q2.2 h3
        refine am_if (c := v3 = (60 : Int32)) (fun h4 => ?_) (fun h4 => ?_)
        · have q4 := q3.1 h4
          have e : fn10_stringPiece_c30 s v2 v3 u0 u1 = fn10_stringPiece_c78 s := by
            rw [fn10_stringPiece_c30]
            rw [if_neg h1, if_pos h2, if_neg h3, if_pos h4]
          rw [e]
          exact i78 s _ _ _ g1 rfl rfl q4
        · have q4 := q3.2 h4
          refine am_if (c := v3 = (38 : Int32)) (fun h5 => ?_) (fun h5 => ?_)
          · have q5 := q4.1 h5
            have e : fn10_stringPiece_c30 s v2 v3 u0 u1 = fn10_stringPiece_c78 s := by
              rw [fn10_stringPiece_c30]
              rw [if_neg h1, if_pos h2, if_neg h3, if_neg h4, if_pos h5]
            rw [e]
            exact i78 s _ _ _ g1 rfl rfl q5
          · have q5 := q4.2 h5
            refine am_if (c := (hm_context s) = (2 : Int32)) (fun h6 => ?_) (fun h6 => ?_)
            · have q6 := q5.1 h6
              refine am_if (c := v3 = (hm_quote s)) (fun h7 => ?_) (fun h7 => ?_)
              · have q7 := q6.1 h7
                have e : fn10_stringPiece_c30 s v2 v3 u0 u1 = fn10_stringPiece_c78 s := by
                  rw [fn10_stringPiece_c30]
                  rw [if_neg h1, if_pos h2, if_neg h3, if_neg h4, if_neg h5, if_pos h6, if_pos h7]
                rw [e]
                exact i78 s _ _ _ g1 rfl rfl q7
              · have e : fn10_stringPiece_c30 s v2 v3 u0 u1 = ((2 : Int32), s) := by
                  rw [fn10_stringPiece_c30]
                  rw [if_neg h1, if_pos h2, if_neg h3, if_neg h4, if_neg h5, if_pos h6, if_neg h7]
                rw [e] <;> rfl
            · have e : fn10_stringPiece_c30 s v2 v3 u0 u1 = ((2 : Int32), s) := by
                rw [fn10_stringPiece_c30]
                rw [if_neg h1, if_pos h2, if_neg h3, if_neg h4, if_neg h5, if_neg h6]
              rw [e] <;> rfl
    · refine am_if (c := v2 = (10 : Int32)) (fun h3 => ?_) (fun h3 => ?_)
      · have e : fn10_stringPiece_c30 s v2 v3 u0 u1 = ((0 : Int32), s) := by
          rw [fn10_stringPiece_c30]
          rw [if_neg h1, if_neg h2, if_pos h3]
        rw [e] <;> rfl
      · have e : fn10_stringPiece_c30 s v2 v3 u0 u1 = ((1 : Int32), s) := by
          rw [fn10_stringPiece_c30]
          rw [if_neg h1, if_neg h2, if_neg h3]
        rw [e] <;> rfl
noncomputable def fn10_stringPiece (s : hs) (p0 : Int32) : Int32 × hs := Classical.choose (⟨_, rfl⟩ : ∃ z : Int32 × hs, z = (if (hm_part s) = (1 : Int32) then (fn10_stringPiece_c30 s (fn10_ch s p0) (fn10_ch s (p0 + (1 : Int32))) (39 : Int32) (fn10_ch s p0)) else (fn10_stringPiece_c30 s (fn10_ch s p0) (fn10_ch s (p0 + (1 : Int32))) (34 : Int32) (fn10_ch s p0))))
theorem fq10_stringPiece (s : hs) (p0 : Int32) : fn10_stringPiece s p0 = (if (hm_part s) = (1 : Int32) then (fn10_stringPiece_c30 s (fn10_ch s p0) (fn10_ch s (p0 + (1 : Int32))) (39 : Int32) (fn10_ch s p0)) else (fn10_stringPiece_c30 s (fn10_ch s p0) (fn10_ch s (p0 + (1 : Int32))) (34 : Int32) (fn10_ch s p0))) := Classical.choose_spec (⟨_, rfl⟩ : ∃ z : Int32 × hs, z = (if (hm_part s) = (1 : Int32) then (fn10_stringPiece_c30 s (fn10_ch s p0) (fn10_ch s (p0 + (1 : Int32))) (39 : Int32) (fn10_ch s p0)) else (fn10_stringPiece_c30 s (fn10_ch s p0) (fn10_ch s (p0 + (1 : Int32))) (34 : Int32) (fn10_ch s p0))))
def wp10_stringPiece (s : hs) (p0 : Int32) : Prop := ((wp10_ch s p0) ∧ ((wp10_ch s (p0 + (1 : Int32))) ∧ (((hm_part s) = (1 : Int32) → (wp10_stringPiece_c30 s (fn10_ch s p0) (fn10_ch s (p0 + (1 : Int32))) (39 : Int32) (fn10_ch s p0))) ∧ (¬ (hm_part s) = (1 : Int32) → (wp10_stringPiece_c30 s (fn10_ch s p0) (fn10_ch s (p0 + (1 : Int32))) (34 : Int32) (fn10_ch s p0))))))
set_option maxRecDepth 100000 in
set_option maxHeartbeats 4000000 in
theorem re10_stringPiece (s : hs) (p0 : Int32) (hp : wp10_stringPiece s p0) : am_lf (am_mk kb10_stringPiece 0 0 22) [30, 78] (0, am_L0 [.inr (.inl 0), .inl p0] 4, [], (hm_w s), 0, 0) = some (some (.inl ((fn10_stringPiece s p0).1)), (hm_w ((fn10_stringPiece s p0).2))) := by
  unfold wp10_stringPiece at hp
  have i30 := @rc10_stringPiece_30
  refine am_lf_eq ?_
  generalize am_lf (am_mk kb10_stringPiece 0 0 22) [30, 78] = kt at i30 ⊢
  refine am_cx (pre := pr10_ch) (f := fm10_ch) (r := (some (.inl (fn10_ch s p0)), (hm_w s), 0, 0)) ?_ ?_ ?_ ?_
  · exact ⟨s, p0, rfl, rfl, hp.1⟩
  · exact fe10_ch s p0
  · exact rfl
  refine am_cx (pre := pr10_ch) (f := fm10_ch) (r := (some (.inl (fn10_ch s (p0 + (1 : Int32)))), (hm_w s), 0, 0)) ?_ ?_ ?_ ?_
  · exact ⟨s, (p0 + (1 : Int32)), rfl, rfl, hp.2.1⟩
  · exact fe10_ch s (p0 + (1 : Int32))
  · exact rfl
  refine am_if (c := (hm_part s) = (1 : Int32)) (fun h1 => ?_) (fun h1 => ?_)
  · have q1 := hp.2.2.1 h1
    have e : fn10_stringPiece s p0 = fn10_stringPiece_c30 s (fn10_ch s p0) (fn10_ch s (p0 + (1 : Int32))) (39 : Int32) (fn10_ch s p0) := by
      rw [fq10_stringPiece]
      rw [if_pos h1]
    rw [e]
    exact i30 s (fn10_ch s p0) (fn10_ch s (p0 + (1 : Int32))) (39 : Int32) (fn10_ch s p0) _ rfl q1
  · have q1 := hp.2.2.2 h1
    have e : fn10_stringPiece s p0 = fn10_stringPiece_c30 s (fn10_ch s p0) (fn10_ch s (p0 + (1 : Int32))) (34 : Int32) (fn10_ch s p0) := by
      rw [fq10_stringPiece]
      rw [if_neg h1]
    rw [e]
    exact i30 s (fn10_ch s p0) (fn10_ch s (p0 + (1 : Int32))) (34 : Int32) (fn10_ch s p0) _ rfl q1
abbrev pr10_stringPiece : List am_V → List am_C → Prop := fun a w => ∃ (s : hs) (p0 : Int32), a = [.inr (.inl 0), .inl p0] ∧ w = (hm_w s) ∧ wp10_stringPiece s p0
noncomputable def fm10_stringPiece : am_M := fun a w => (fun (z : Int32 × hs) => (some (.inl (z.1)), (hm_w (z.2)), 0, 0)) (fn10_stringPiece (hm_st w 0) (am_i (am_an a 1)))
theorem fe10_stringPiece (s : hs) (p0 : Int32) : fm10_stringPiece [.inr (.inl 0), .inl p0] (hm_w s) = (some (.inl ((fn10_stringPiece s p0).1)), (hm_w ((fn10_stringPiece s p0).2)), 0, 0) := rfl
set_option maxRecDepth 100000 in
set_option maxHeartbeats 4000000 in
theorem rn10_stringPiece : ∀ (a : List am_V) (w : List am_C), pr10_stringPiece a w → ∃ nq, am_ev (am_mk kb10_stringPiece (fm10_stringPiece a w).2.2.1 (fm10_stringPiece a w).2.2.2 w.length) [30, 78] nq (0, am_L0 a 4, [], w, 0, 0) = some ((fm10_stringPiece a w).1, (fm10_stringPiece a w).2.1) := by
  rintro a w ⟨s, p0, rfl, rfl, hp⟩
  rw [fe10_stringPiece s p0]
  exact am_lf_ev (re10_stringPiece s p0 hp)
theorem rl10_stringPiece : ∀ (a : List am_V) (w : List am_C), pr10_stringPiece a w → a.length ≤ 4 := by
  rintro a w ⟨s, p0, rfl, rfl, hp⟩
  exact Nat.le_of_ble_eq_true rfl
theorem pa10_stringPiece : ∀ a w, pr10_stringPiece a w → ∃ q a' ci fs r, a = .inr (.inl q) :: a' ∧ w[q]? = some (.inr (ci, fs)) ∧ hn_cl[ci]? = some r ∧ r.1 = hn_R10 := by
  rintro a w ⟨s, p0, rfl, rfl, hp⟩
  exact ⟨0, _, 10, _, _, rfl, rfl, rfl, rfl⟩
set_option maxRecDepth 100000 in
set_option maxHeartbeats 4000000 in
theorem km10_stringPiece {l : Launch} {E : (Nat → Prop) → State → Prop} {D : va_G} {ou : Nat → Nat} {ca : Nat → ClassId} (hE : am_EC E) : hg_Met l E D ou ca hy10_stringPiece prog_12_method_32_code 4 (some .int) 1 pr10_stringPiece fm10_stringPiece := by
  refine am_met (B := kb10_stringPiece) (cuts := [30, 78]) (nt := 5) (by decide +kernel) rfl rfl (hg_tys_ok ca) ?_ (by decide) rl10_stringPiece ?_ rn10_stringPiece
  · exact fun t ht => List.mem_cons_of_mem _ (hg_arr t ht)
  · intro a w hp ad p e R s m args below meth c hR X hEs hnm
    have hR1 : 1 ≤ R.frames ∧ 40 ≤ R.locals := by rw [hR]; exact ⟨Nat.le_refl _, Nat.le_refl _⟩
    refine ⟨kd10_stringPiece_ok, fun index ci fi mode hq => kf10_ok X.2.2.2.2.1 (index, ci, fi, mode) (am_as_mem hq), fun index ci fs hq => (am_no hq).elim, fun x v hq => (am_no hq).elim, ?_, fun o t n f hq => (am_no hq).elim, rfl, rfl, by rw [hR]; exact Nat.le_refl _, by rw [hR]; exact Nat.le_refl _⟩
    intro pc sel n0 pre0 f0 hq
    have hz : ∀ q ∈ ki10_stringPiece, am_CK p l e R s m args below meth c D hn_cl (va_A (am_w ad ou ca w) s.heap.size) ou ca 4 q.1 q.2.2.1 q.2.2.2.1 q.2.2.2.2 := by
      refine am_allc (am_ck_V (n := 1) X hEs hE (km10_ch hE) (hg_good (gw_mem 1147 (by decide +kernel))) rfl (List.mem_cons_of_mem _ (gw_mem 76 (by decide +kernel))) (List.mem_cons_of_mem _ (gw_mem 1144 (by decide +kernel))) (List.mem_cons_of_mem _ (gw_mem 1146 (by decide +kernel))) (List.mem_cons_of_mem _ (gw_mem 21 (by decide +kernel))) pa10_ch (by decide +kernel) ⟨Nat.le_trans (by decide) hR1.1, Nat.le_trans (by decide) hR1.2⟩ (kd10_stringPiece_ok (2, .invokevirtual 114, 3) (List.mem_of_getElem? (i := 2) rfl))) (am_allc (am_ck_V (n := 1) X hEs hE (km10_ch hE) (hg_good (gw_mem 1147 (by decide +kernel))) rfl (List.mem_cons_of_mem _ (gw_mem 76 (by decide +kernel))) (List.mem_cons_of_mem _ (gw_mem 1144 (by decide +kernel))) (List.mem_cons_of_mem _ (gw_mem 1146 (by decide +kernel))) (List.mem_cons_of_mem _ (gw_mem 21 (by decide +kernel))) pa10_ch (by decide +kernel) ⟨Nat.le_trans (by decide) hR1.1, Nat.le_trans (by decide) hR1.2⟩ (kd10_stringPiece_ok (10, .invokevirtual 114, 3) (List.mem_of_getElem? (i := 8) rfl))) (am_all0))
    exact hz _ (am_as_mem hq)
noncomputable def ki10_codePiece : List (Nat × Option (List Nat) × Nat × (List am_V → List am_C → Prop) × am_M) := [(2, none, 2, pr10_ch, fm10_ch), (10, none, 2, pr10_ch, fm10_ch), (25, none, 3, pr10_openPiece, fm10_openPiece), (39, none, 2, pr10_stringPiece, fm10_stringPiece)]
noncomputable def kb10_codePiece : am_B := (kd10_codePiece, am_as kf10, hn_ty, fun _ => none, fun _ => none, am_as ki10_codePiece, fun _ => none, 5, 5, (some .int))
noncomputable def fn10_codePiece_c63 (s : hs) (u0 : Int32) : Int32 × hs := ((1 : Int32), (hu_part s u0))
def wp10_codePiece_c63 (s : hs) (u0 : Int32) : Prop := True
set_option maxRecDepth 100000 in
set_option maxHeartbeats 4000000 in
theorem rc10_codePiece_63 (s : hs) (u0 : Int32) (j1 : Option am_V) (j2 : Option am_V) (j3 : Option am_V) (j4 : Option am_V) (g1 : am_loO 22 j1 = true) (g2 : am_loO 22 j2 = true) (g3 : am_loO 22 j3 = true) (g4 : am_loO 22 j4 = true) (hp : wp10_codePiece_c63 s u0) : am_lf (am_mk kb10_codePiece 0 0 22) [63, 88] (63, [some (.inr (.inl 0)), j1, j2, j3, j4], [.inl u0, .inr (.inl 0)], (hm_w s), 0, 0) = some (some (.inl ((fn10_codePiece_c63 s u0).1)), (hm_w ((fn10_codePiece_c63 s u0).2))) := by
  unfold wp10_codePiece_c63 at hp
  refine am_lf_eq ?_
  generalize am_lf (am_mk kb10_codePiece 0 0 22) [63, 88] = kt
  refine am_sp (w' := (hm_w (hu_part s u0))) (kp_R_0_part s u0) ?_
  have e : fn10_codePiece_c63 s u0 = ((1 : Int32), (hu_part s u0)) := by
    rw [fn10_codePiece_c63]
  rw [e] <;> rfl
noncomputable def fn10_codePiece_c88 (s : hs) (v3 : Int32) (v4 : Int32) : Int32 × hs := (if v3 = (42 : Int32) then (if v4 = 0 then ((0 : Int32), s) else ((1 : Int32), s)) else ((1 : Int32), s))
def wp10_codePiece_c88 (s : hs) (v3 : Int32) (v4 : Int32) : Prop := True
set_option maxRecDepth 100000 in
set_option maxHeartbeats 4000000 in
theorem rc10_codePiece_88 (s : hs) (v3 : Int32) (v4 : Int32) (j1 : Option am_V) (j2 : Option am_V) (g1 : am_loO 22 j1 = true) (g2 : am_loO 22 j2 = true) (hp : wp10_codePiece_c88 s v3 v4) : am_lf (am_mk kb10_codePiece 0 0 22) [63, 88] (88, [some (.inr (.inl 0)), j1, j2, some (.inl v3), some (.inl v4)], [], (hm_w s), 0, 0) = some (some (.inl ((fn10_codePiece_c88 s v3 v4).1)), (hm_w ((fn10_codePiece_c88 s v3 v4).2))) := by
  unfold wp10_codePiece_c88 at hp
  refine am_lf_eq ?_
  generalize am_lf (am_mk kb10_codePiece 0 0 22) [63, 88] = kt
  refine am_if (c := v3 = (42 : Int32)) (fun h1 => ?_) (fun h1 => ?_)
  · refine am_if (c := v4 = 0) (fun h2 => ?_) (fun h2 => ?_)
    · have e : fn10_codePiece_c88 s v3 v4 = ((0 : Int32), s) := by
        rw [fn10_codePiece_c88]
        rw [if_pos h1, if_pos h2]
      rw [e] <;> rfl
    · have e : fn10_codePiece_c88 s v3 v4 = ((1 : Int32), s) := by
        rw [fn10_codePiece_c88]
        rw [if_pos h1, if_neg h2]
      rw [e] <;> rfl
  · have e : fn10_codePiece_c88 s v3 v4 = ((1 : Int32), s) := by
      rw [fn10_codePiece_c88]
      rw [if_neg h1]
    rw [e] <;> rfl
noncomputable def fn10_codePiece (s : hs) (p0 : Int32) (p1 : Int32) : Int32 × hs := Classical.choose (⟨_, rfl⟩ : ∃ z : Int32 × hs, z = (if (hm_part s) = 0 then ((fn10_openPiece s p0 p1).1, (fn10_openPiece s p0 p1).2) else (if (3 : Int32) ≤ (hm_part s) then (if (hm_part s) = (3 : Int32) then (if (fn10_ch s p0) = (10 : Int32) then (fn10_codePiece_c63 s (0 : Int32)) else (fn10_codePiece_c63 s (3 : Int32))) else (if (fn10_ch s p0) = (42 : Int32) then (if (fn10_ch s (p0 + (1 : Int32))) = (47 : Int32) then ((2 : Int32), (hu_part s (0 : Int32))) else (fn10_codePiece_c88 s (fn10_ch s p0) (fn10_ch s (p0 + (1 : Int32))))) else (fn10_codePiece_c88 s (fn10_ch s p0) (fn10_ch s (p0 + (1 : Int32)))))) else ((fn10_stringPiece s p0).1, (fn10_stringPiece s p0).2))))
theorem fq10_codePiece (s : hs) (p0 : Int32) (p1 : Int32) : fn10_codePiece s p0 p1 = (if (hm_part s) = 0 then ((fn10_openPiece s p0 p1).1, (fn10_openPiece s p0 p1).2) else (if (3 : Int32) ≤ (hm_part s) then (if (hm_part s) = (3 : Int32) then (if (fn10_ch s p0) = (10 : Int32) then (fn10_codePiece_c63 s (0 : Int32)) else (fn10_codePiece_c63 s (3 : Int32))) else (if (fn10_ch s p0) = (42 : Int32) then (if (fn10_ch s (p0 + (1 : Int32))) = (47 : Int32) then ((2 : Int32), (hu_part s (0 : Int32))) else (fn10_codePiece_c88 s (fn10_ch s p0) (fn10_ch s (p0 + (1 : Int32))))) else (fn10_codePiece_c88 s (fn10_ch s p0) (fn10_ch s (p0 + (1 : Int32)))))) else ((fn10_stringPiece s p0).1, (fn10_stringPiece s p0).2))) := Classical.choose_spec (⟨_, rfl⟩ : ∃ z : Int32 × hs, z = (if (hm_part s) = 0 then ((fn10_openPiece s p0 p1).1, (fn10_openPiece s p0 p1).2) else (if (3 : Int32) ≤ (hm_part s) then (if (hm_part s) = (3 : Int32) then (if (fn10_ch s p0) = (10 : Int32) then (fn10_codePiece_c63 s (0 : Int32)) else (fn10_codePiece_c63 s (3 : Int32))) else (if (fn10_ch s p0) = (42 : Int32) then (if (fn10_ch s (p0 + (1 : Int32))) = (47 : Int32) then ((2 : Int32), (hu_part s (0 : Int32))) else (fn10_codePiece_c88 s (fn10_ch s p0) (fn10_ch s (p0 + (1 : Int32))))) else (fn10_codePiece_c88 s (fn10_ch s p0) (fn10_ch s (p0 + (1 : Int32)))))) else ((fn10_stringPiece s p0).1, (fn10_stringPiece s p0).2))))
def wp10_codePiece (s : hs) (p0 : Int32) (p1 : Int32) : Prop := ((wp10_ch s p0) ∧ ((wp10_ch s (p0 + (1 : Int32))) ∧ (((hm_part s) = 0 → (wp10_openPiece s p0 p1)) ∧ (¬ (hm_part s) = 0 → (((3 : Int32) ≤ (hm_part s) → (((hm_part s) = (3 : Int32) → (((fn10_ch s p0) = (10 : Int32) → (wp10_codePiece_c63 s (0 : Int32))) ∧ (¬ (fn10_ch s p0) = (10 : Int32) → (wp10_codePiece_c63 s (3 : Int32))))) ∧ (¬ (hm_part s) = (3 : Int32) → (((fn10_ch s p0) = (42 : Int32) → (((fn10_ch s (p0 + (1 : Int32))) = (47 : Int32) → True) ∧ (¬ (fn10_ch s (p0 + (1 : Int32))) = (47 : Int32) → (wp10_codePiece_c88 s (fn10_ch s p0) (fn10_ch s (p0 + (1 : Int32))))))) ∧ (¬ (fn10_ch s p0) = (42 : Int32) → (wp10_codePiece_c88 s (fn10_ch s p0) (fn10_ch s (p0 + (1 : Int32))))))))) ∧ (¬ (3 : Int32) ≤ (hm_part s) → (wp10_stringPiece s p0)))))))
set_option maxRecDepth 100000 in
set_option maxHeartbeats 4000000 in
theorem re10_codePiece (s : hs) (p0 : Int32) (p1 : Int32) (hp : wp10_codePiece s p0 p1) : am_lf (am_mk kb10_codePiece 0 0 22) [63, 88] (0, am_L0 [.inr (.inl 0), .inl p0, .inl p1] 5, [], (hm_w s), 0, 0) = some (some (.inl ((fn10_codePiece s p0 p1).1)), (hm_w ((fn10_codePiece s p0 p1).2))) := by
  unfold wp10_codePiece at hp
  have i63 := @rc10_codePiece_63
  have i88 := @rc10_codePiece_88
  refine am_lf_eq ?_
  generalize am_lf (am_mk kb10_codePiece 0 0 22) [63, 88] = kt at i63 i88 ⊢
  refine am_cx (pre := pr10_ch) (f := fm10_ch) (r := (some (.inl (fn10_ch s p0)), (hm_w s), 0, 0)) ?_ ?_ ?_ ?_
  · exact ⟨s, p0, rfl, rfl, hp.1⟩
  · exact fe10_ch s p0
  · exact rfl
  refine am_cx (pre := pr10_ch) (f := fm10_ch) (r := (some (.inl (fn10_ch s (p0 + (1 : Int32)))), (hm_w s), 0, 0)) ?_ ?_ ?_ ?_
  · exact ⟨s, (p0 + (1 : Int32)), rfl, rfl, hp.2.1⟩
  · exact fe10_ch s (p0 + (1 : Int32))
  · exact rfl
  refine am_if (c := (hm_part s) = 0) (fun h1 => ?_) (fun h1 => ?_)
  · have q1 := hp.2.2.1 h1
    refine am_cx (pre := pr10_openPiece) (f := fm10_openPiece) (r := (some (.inl ((fn10_openPiece s p0 p1).1)), (hm_w ((fn10_openPiece s p0 p1).2)), 0, 0)) ?_ ?_ ?_ ?_
    · exact ⟨s, p0, p1, rfl, rfl, q1⟩
    · exact fe10_openPiece s p0 p1
    · exact rfl
    have e : fn10_codePiece s p0 p1 = ((fn10_openPiece s p0 p1).1, (fn10_openPiece s p0 p1).2) := by
      rw [fq10_codePiece]
      rw [if_pos h1]
    rw [e] <;> rfl
  · have q1 := hp.2.2.2 h1
    refine am_if (c := (3 : Int32) ≤ (hm_part s)) (fun h2 => ?_) (fun h2 => ?_)
    · have q2 := q1.1 h2
      refine am_if (c := (hm_part s) = (3 : Int32)) (fun h3 => ?_) (fun h3 => ?_)
      · have q3 := q2.1 h3
        refine am_if (c := (fn10_ch s p0) = (10 : Int32)) (fun h4 => ?_) (fun h4 => ?_)
        · have q4 := q3.1 h4
          have e : fn10_codePiece s p0 p1 = fn10_codePiece_c63 s (0 : Int32) := by
            rw [fq10_codePiece]
            rw [if_neg h1, if_pos h2, if_pos h3, if_pos h4]
          rw [e]
          exact i63 s (0 : Int32) _ _ _ _ rfl rfl rfl rfl q4
        · have q4 := q3.2 h4
          have e : fn10_codePiece s p0 p1 = fn10_codePiece_c63 s (3 : Int32) := by
            rw [fq10_codePiece]
            rw [if_neg h1, if_pos h2, if_pos h3, if_neg h4]
          rw [e]
          exact i63 s (3 : Int32) _ _ _ _ rfl rfl rfl rfl q4
      · have q3 := q2.2 h3
        refine am_if (c := (fn10_ch s p0) = (42 : Int32)) (fun h4 => ?_) (fun h4 => ?_)
        · have q4 := q3.1 h4
          refine am_if (c := (fn10_ch s (p0 + (1 : Int32))) = (47 : Int32)) (fun h5 => ?_) (fun h5 => ?_)
          · refine am_sp (w' := (hm_w (hu_part s (0 : Int32)))) (kp_R_0_part s (0 : Int32)) ?_
            have e : fn10_codePiece s p0 p1 = ((2 : Int32), (hu_part s (0 : Int32))) := by
              rw [fq10_codePiece]
              rw [if_neg h1, if_pos h2, if_neg h3, if_pos h4, if_pos h5]
            rw [e] <;> rfl
          · have q5 := q4.2 h5
            have e : fn10_codePiece s p0 p1 = fn10_codePiece_c88 s (fn10_ch s p0) (fn10_ch s (p0 + (1 : Int32))) := by
              rw [fq10_codePiece]
              rw [if_neg h1, if_pos h2, if_neg h3, if_pos h4, if_neg h5]
            rw [e]
            exact i88 s (fn10_ch s p0) (fn10_ch s (p0 + (1 : Int32))) _ _ rfl rfl q5
        · have q4 := q3.2 h4
          have e : fn10_codePiece s p0 p1 = fn10_codePiece_c88 s (fn10_ch s p0) (fn10_ch s (p0 + (1 : Int32))) := by
            rw [fq10_codePiece]
            rw [if_neg h1, if_pos h2, if_neg h3, if_neg h4]
          rw [e]
          exact i88 s (fn10_ch s p0) (fn10_ch s (p0 + (1 : Int32))) _ _ rfl rfl q4
    · have q2 := q1.2 h2
      refine am_cx (pre := pr10_stringPiece) (f := fm10_stringPiece) (r := (some (.inl ((fn10_stringPiece s p0).1)), (hm_w ((fn10_stringPiece s p0).2)), 0, 0)) ?_ ?_ ?_ ?_
      · exact ⟨s, p0, rfl, rfl, q2⟩
      · exact fe10_stringPiece s p0
      · exact rfl
      have e : fn10_codePiece s p0 p1 = ((fn10_stringPiece s p0).1, (fn10_stringPiece s p0).2) := by
        rw [fq10_codePiece]
        rw [if_neg h1, if_neg h2]
      rw [e] <;> rfl
abbrev pr10_codePiece : List am_V → List am_C → Prop := fun a w => ∃ (s : hs) (p0 : Int32) (p1 : Int32), a = [.inr (.inl 0), .inl p0, .inl p1] ∧ w = (hm_w s) ∧ wp10_codePiece s p0 p1
noncomputable def fm10_codePiece : am_M := fun a w => (fun (z : Int32 × hs) => (some (.inl (z.1)), (hm_w (z.2)), 0, 0)) (fn10_codePiece (hm_st w 0) (am_i (am_an a 1)) (am_i (am_an a 2)))
theorem fe10_codePiece (s : hs) (p0 : Int32) (p1 : Int32) : fm10_codePiece [.inr (.inl 0), .inl p0, .inl p1] (hm_w s) = (some (.inl ((fn10_codePiece s p0 p1).1)), (hm_w ((fn10_codePiece s p0 p1).2)), 0, 0) := rfl
set_option maxRecDepth 100000 in
set_option maxHeartbeats 4000000 in
theorem rn10_codePiece : ∀ (a : List am_V) (w : List am_C), pr10_codePiece a w → ∃ nq, am_ev (am_mk kb10_codePiece (fm10_codePiece a w).2.2.1 (fm10_codePiece a w).2.2.2 w.length) [63, 88] nq (0, am_L0 a 5, [], w, 0, 0) = some ((fm10_codePiece a w).1, (fm10_codePiece a w).2.1) := by
  rintro a w ⟨s, p0, p1, rfl, rfl, hp⟩
  rw [fe10_codePiece s p0 p1]
  exact am_lf_ev (re10_codePiece s p0 p1 hp)
theorem rl10_codePiece : ∀ (a : List am_V) (w : List am_C), pr10_codePiece a w → a.length ≤ 5 := by
  rintro a w ⟨s, p0, p1, rfl, rfl, hp⟩
  exact Nat.le_of_ble_eq_true rfl
theorem pa10_codePiece : ∀ a w, pr10_codePiece a w → ∃ q a' ci fs r, a = .inr (.inl q) :: a' ∧ w[q]? = some (.inr (ci, fs)) ∧ hn_cl[ci]? = some r ∧ r.1 = hn_R10 := by
  rintro a w ⟨s, p0, p1, rfl, rfl, hp⟩
  exact ⟨0, _, 10, _, _, rfl, rfl, rfl, rfl⟩
set_option maxRecDepth 100000 in
set_option maxHeartbeats 4000000 in
theorem km10_codePiece {l : Launch} {E : (Nat → Prop) → State → Prop} {D : va_G} {ou : Nat → Nat} {ca : Nat → ClassId} (hE : am_EC E) : hg_Met l E D ou ca hy10_codePiece prog_12_method_33_code 5 (some .int) 2 pr10_codePiece fm10_codePiece := by
  refine am_met (B := kb10_codePiece) (cuts := [63, 88]) (nt := 5) (by decide +kernel) rfl rfl (hg_tys_ok ca) ?_ (by decide) rl10_codePiece ?_ rn10_codePiece
  · exact fun t ht => List.mem_cons_of_mem _ (hg_arr t ht)
  · intro a w hp ad p e R s m args below meth c hR X hEs hnm
    have hR1 : 2 ≤ R.frames ∧ 80 ≤ R.locals := by rw [hR]; exact ⟨Nat.le_refl _, Nat.le_refl _⟩
    refine ⟨kd10_codePiece_ok, fun index ci fi mode hq => kf10_ok X.2.2.2.2.1 (index, ci, fi, mode) (am_as_mem hq), fun index ci fs hq => (am_no hq).elim, fun x v hq => (am_no hq).elim, ?_, fun o t n f hq => (am_no hq).elim, rfl, rfl, by rw [hR]; exact Nat.le_refl _, by rw [hR]; exact Nat.le_refl _⟩
    intro pc sel n0 pre0 f0 hq
    have hz : ∀ q ∈ ki10_codePiece, am_CK p l e R s m args below meth c D hn_cl (va_A (am_w ad ou ca w) s.heap.size) ou ca 5 q.1 q.2.2.1 q.2.2.2.1 q.2.2.2.2 := by
      refine am_allc (am_ck_V (n := 1) X hEs hE (km10_ch hE) (hg_good (gw_mem 1147 (by decide +kernel))) rfl (List.mem_cons_of_mem _ (gw_mem 76 (by decide +kernel))) (List.mem_cons_of_mem _ (gw_mem 1144 (by decide +kernel))) (List.mem_cons_of_mem _ (gw_mem 1146 (by decide +kernel))) (List.mem_cons_of_mem _ (gw_mem 21 (by decide +kernel))) pa10_ch (by decide +kernel) ⟨Nat.le_trans (by decide) hR1.1, Nat.le_trans (by decide) hR1.2⟩ (kd10_codePiece_ok (2, .invokevirtual 114, 3) (List.mem_of_getElem? (i := 2) rfl))) (am_allc (am_ck_V (n := 1) X hEs hE (km10_ch hE) (hg_good (gw_mem 1147 (by decide +kernel))) rfl (List.mem_cons_of_mem _ (gw_mem 76 (by decide +kernel))) (List.mem_cons_of_mem _ (gw_mem 1144 (by decide +kernel))) (List.mem_cons_of_mem _ (gw_mem 1146 (by decide +kernel))) (List.mem_cons_of_mem _ (gw_mem 21 (by decide +kernel))) pa10_ch (by decide +kernel) ⟨Nat.le_trans (by decide) hR1.1, Nat.le_trans (by decide) hR1.2⟩ (kd10_codePiece_ok (10, .invokevirtual 114, 3) (List.mem_of_getElem? (i := 8) rfl))) (am_allc (am_ck_V (n := 2) X hEs hE (km10_openPiece hE) (hg_good (gw_mem 1216 (by decide +kernel))) rfl (List.mem_cons_of_mem _ (gw_mem 76 (by decide +kernel))) (List.mem_cons_of_mem _ (gw_mem 1213 (by decide +kernel))) (List.mem_cons_of_mem _ (gw_mem 1215 (by decide +kernel))) (List.mem_cons_of_mem _ (gw_mem 36 (by decide +kernel))) pa10_openPiece (by decide +kernel) ⟨Nat.le_trans (by decide) hR1.1, Nat.le_trans (by decide) hR1.2⟩ (kd10_codePiece_ok (25, .invokevirtual 185, 3) (List.mem_of_getElem? (i := 16) rfl))) (am_allc (am_ck_V (n := 1) X hEs hE (km10_stringPiece hE) (hg_good (gw_mem 1220 (by decide +kernel))) rfl (List.mem_cons_of_mem _ (gw_mem 76 (by decide +kernel))) (List.mem_cons_of_mem _ (gw_mem 1217 (by decide +kernel))) (List.mem_cons_of_mem _ (gw_mem 1219 (by decide +kernel))) (List.mem_cons_of_mem _ (gw_mem 37 (by decide +kernel))) pa10_stringPiece (by decide +kernel) ⟨Nat.le_trans (by decide) hR1.1, Nat.le_trans (by decide) hR1.2⟩ (kd10_codePiece_ok (39, .invokevirtual 188, 3) (List.mem_of_getElem? (i := 24) rfl))) (am_all0))))
    exact hz _ (am_as_mem hq)
