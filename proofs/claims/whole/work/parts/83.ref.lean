noncomputable def ki10_textPiece : List (Nat × Option (List Nat) × Nat × (List am_V → List am_C → Prop) × am_M) := [(2, none, 2, pr10_ch, fm10_ch), (14, none, 2, pr10_isAmpersand, fm10_isAmpersand), (38, none, 3, pr10_begins, fm10_begins), (48, none, 2, pr10_ch, fm10_ch), (60, none, 2, pr10_ch, fm10_ch), (81, none, 2, pr10_go, fm10_go), (98, none, 3, pr10_begins, fm10_begins), (108, none, 2, pr10_lettersFrom, fm10_lettersFrom), (122, none, 2, pr10_ch, fm10_ch), (142, none, 2, pr10_lettersFrom, fm10_lettersFrom), (152, none, 2, pr10_ch, fm10_ch), (163, some [], 1, pr10_isBlank, fm10_isBlank), (187, none, 2, pr10_go, fm10_go), (196, none, 3, pr10_isScript, fm10_isScript), (211, none, 3, pr10_isStyle, fm10_isStyle), (226, none, 3, pr10_isTitle, fm10_isTitle)]
noncomputable def kb10_textPiece : am_B := (kd10_textPiece, am_as kf10, hn_ty, fun _ => none, fun _ => none, am_as ki10_textPiece, fun _ => none, 5, 5, (some .int))
noncomputable def fn10_textPiece_c84 (s : hs) (v3 : Int32) : Int32 × hs := (if v3 = 0 then ((0 : Int32), s) else ((4 : Int32), s))
def wp10_textPiece_c84 (s : hs) (v3 : Int32) : Prop := True
set_option maxRecDepth 100000 in
set_option maxHeartbeats 4000000 in
theorem rc10_textPiece_84 (s : hs) (v3 : Int32) (j1 : Option am_V) (j2 : Option am_V) (j4 : Option am_V) (g1 : am_loO 22 j1 = true) (g2 : am_loO 22 j2 = true) (g4 : am_loO 22 j4 = true) (hp : wp10_textPiece_c84 s v3) : am_lf (am_mk kb10_textPiece 0 0 22) [72, 73, 84, 185, 237] (84, [some (.inr (.inl 0)), j1, j2, some (.inl v3), j4], [], (hm_w s), 0, 0) = some (some (.inl ((fn10_textPiece_c84 s v3).1)), (hm_w ((fn10_textPiece_c84 s v3).2))) := by
  unfold wp10_textPiece_c84 at hp
  refine am_lf_eq ?_
  generalize am_lf (am_mk kb10_textPiece 0 0 22) [72, 73, 84, 185, 237] = kt
  refine am_if (c := v3 = 0) (fun h1 => ?_) (fun h1 => ?_)
  · have e : fn10_textPiece_c84 s v3 = ((0 : Int32), s) := by
      rw [fn10_textPiece_c84]
      rw [if_pos h1]
    rw [e] <;> rfl
  · have e : fn10_textPiece_c84 s v3 = ((4 : Int32), s) := by
      rw [fn10_textPiece_c84]
      rw [if_neg h1]
    rw [e] <;> rfl
noncomputable def fn10_textPiece_c73 (s : hs) (u0 : Int32) : Int32 × hs := (if u0 = 0 then (fn10_textPiece_c84 s u0) else (fn10_textPiece_c84 (fn10_go s (6 : Int32)) u0))
def wp10_textPiece_c73 (s : hs) (u0 : Int32) : Prop := ((u0 = 0 → (wp10_textPiece_c84 s u0)) ∧ (¬ u0 = 0 → ((wp10_go s (6 : Int32)) ∧ (wp10_textPiece_c84 (fn10_go s (6 : Int32)) u0))))
set_option maxRecDepth 100000 in
set_option maxHeartbeats 4000000 in
theorem rc10_textPiece_73 (s : hs) (u0 : Int32) (j1 : Option am_V) (j2 : Option am_V) (j3 : Option am_V) (j4 : Option am_V) (g1 : am_loO 22 j1 = true) (g2 : am_loO 22 j2 = true) (g3 : am_loO 22 j3 = true) (g4 : am_loO 22 j4 = true) (hp : wp10_textPiece_c73 s u0) : am_lf (am_mk kb10_textPiece 0 0 22) [72, 73, 84, 185, 237] (73, [some (.inr (.inl 0)), j1, j2, j3, j4], [.inl u0], (hm_w s), 0, 0) = some (some (.inl ((fn10_textPiece_c73 s u0).1)), (hm_w ((fn10_textPiece_c73 s u0).2))) := by
  unfold wp10_textPiece_c73 at hp
  have i84 := @rc10_textPiece_84
  refine am_lf_eq ?_
  generalize am_lf (am_mk kb10_textPiece 0 0 22) [72, 73, 84, 185, 237] = kt at i84 ⊢
  refine am_if (c := u0 = 0) (fun h1 => ?_) (fun h1 => ?_)
  · have q1 := hp.1 h1
    have e : fn10_textPiece_c73 s u0 = fn10_textPiece_c84 s u0 := by
      rw [fn10_textPiece_c73]
      rw [if_pos h1]
    rw [e]
    exact i84 s u0 _ _ _ g1 g2 g4 q1
  · have q1 := hp.2 h1
    refine am_cx (pre := pr10_go) (f := fm10_go) (r := (none, (hm_w (fn10_go s (6 : Int32))), 0, 0)) ?_ ?_ ?_ ?_
    · exact ⟨s, (6 : Int32), rfl, rfl, q1.1⟩
    · exact fe10_go s (6 : Int32)
    · exact (am_ac rfl (am_ac g1 (am_ac g2 (am_ac rfl (am_ac g4 am_a0)))))
    have e : fn10_textPiece_c73 s u0 = fn10_textPiece_c84 (fn10_go s (6 : Int32)) u0 := by
      rw [fn10_textPiece_c73]
      rw [if_neg h1]
    rw [e]
    exact i84 (fn10_go s (6 : Int32)) u0 _ _ _ g1 g2 g4 q1.2
noncomputable def fn10_textPiece_c72 (s : hs) : Int32 × hs := (fn10_textPiece_c73 s (0 : Int32))
def wp10_textPiece_c72 (s : hs) : Prop := (wp10_textPiece_c73 s (0 : Int32))
set_option maxRecDepth 100000 in
set_option maxHeartbeats 4000000 in
theorem rc10_textPiece_72 (s : hs) (j1 : Option am_V) (j2 : Option am_V) (j3 : Option am_V) (j4 : Option am_V) (g1 : am_loO 22 j1 = true) (g2 : am_loO 22 j2 = true) (g3 : am_loO 22 j3 = true) (g4 : am_loO 22 j4 = true) (hp : wp10_textPiece_c72 s) : am_lf (am_mk kb10_textPiece 0 0 22) [72, 73, 84, 185, 237] (72, [some (.inr (.inl 0)), j1, j2, j3, j4], [], (hm_w s), 0, 0) = some (some (.inl ((fn10_textPiece_c72 s).1)), (hm_w ((fn10_textPiece_c72 s).2))) := by
  unfold wp10_textPiece_c72 at hp
  have i73 := @rc10_textPiece_73
  refine am_lf_eq ?_
  generalize am_lf (am_mk kb10_textPiece 0 0 22) [72, 73, 84, 185, 237] = kt at i73 ⊢
  have e : fn10_textPiece_c72 s = fn10_textPiece_c73 s (0 : Int32) := by
    rw [fn10_textPiece_c72]
  rw [e]
  exact i73 s (0 : Int32) _ _ _ _ g1 g2 g3 g4 hp
noncomputable def fn10_textPiece_c237 (s : hs) (v3 : Int32) (u0 : Int32) : Int32 × hs := ((v3 + (1 : Int32)), (hu_element s u0))
def wp10_textPiece_c237 (s : hs) (v3 : Int32) (u0 : Int32) : Prop := True
set_option maxRecDepth 100000 in
set_option maxHeartbeats 4000000 in
theorem rc10_textPiece_237 (s : hs) (v3 : Int32) (u0 : Int32) (j1 : Option am_V) (j2 : Option am_V) (j4 : Option am_V) (g1 : am_loO 22 j1 = true) (g2 : am_loO 22 j2 = true) (g4 : am_loO 22 j4 = true) (hp : wp10_textPiece_c237 s v3 u0) : am_lf (am_mk kb10_textPiece 0 0 22) [72, 73, 84, 185, 237] (237, [some (.inr (.inl 0)), j1, j2, some (.inl v3), j4], [.inl u0, .inr (.inl 0)], (hm_w s), 0, 0) = some (some (.inl ((fn10_textPiece_c237 s v3 u0).1)), (hm_w ((fn10_textPiece_c237 s v3 u0).2))) := by
  unfold wp10_textPiece_c237 at hp
  refine am_lf_eq ?_
  generalize am_lf (am_mk kb10_textPiece 0 0 22) [72, 73, 84, 185, 237] = kt
  refine am_sp (w' := (hm_w (hu_element s u0))) (kp_R_0_element s u0) ?_
  have e : fn10_textPiece_c237 s v3 u0 = ((v3 + (1 : Int32)), (hu_element s u0)) := by
    rw [fn10_textPiece_c237]
  rw [e] <;> rfl
noncomputable def fn10_textPiece_c185 (s : hs) (v1 : Int32) (v3 : Int32) : Int32 × hs := (if (fn10_isScript (fn10_go s (1 : Int32)) (v1 + (1 : Int32)) v3) = 0 then (if (fn10_isStyle (fn10_go s (1 : Int32)) (v1 + (1 : Int32)) v3) = 0 then (if (fn10_isTitle (fn10_go s (1 : Int32)) (v1 + (1 : Int32)) v3) = 0 then (fn10_textPiece_c237 (fn10_go s (1 : Int32)) v3 (0 : Int32)) else (fn10_textPiece_c237 (fn10_go s (1 : Int32)) v3 (3 : Int32))) else (fn10_textPiece_c237 (fn10_go s (1 : Int32)) v3 (2 : Int32))) else (fn10_textPiece_c237 (fn10_go s (1 : Int32)) v3 (1 : Int32)))
def wp10_textPiece_c185 (s : hs) (v1 : Int32) (v3 : Int32) : Prop := ((wp10_go s (1 : Int32)) ∧ ((wp10_isScript (fn10_go s (1 : Int32)) (v1 + (1 : Int32)) v3) ∧ (((fn10_isScript (fn10_go s (1 : Int32)) (v1 + (1 : Int32)) v3) = 0 → ((wp10_isStyle (fn10_go s (1 : Int32)) (v1 + (1 : Int32)) v3) ∧ (((fn10_isStyle (fn10_go s (1 : Int32)) (v1 + (1 : Int32)) v3) = 0 → ((wp10_isTitle (fn10_go s (1 : Int32)) (v1 + (1 : Int32)) v3) ∧ (((fn10_isTitle (fn10_go s (1 : Int32)) (v1 + (1 : Int32)) v3) = 0 → (wp10_textPiece_c237 (fn10_go s (1 : Int32)) v3 (0 : Int32))) ∧ (¬ (fn10_isTitle (fn10_go s (1 : Int32)) (v1 + (1 : Int32)) v3) = 0 → (wp10_textPiece_c237 (fn10_go s (1 : Int32)) v3 (3 : Int32)))))) ∧ (¬ (fn10_isStyle (fn10_go s (1 : Int32)) (v1 + (1 : Int32)) v3) = 0 → (wp10_textPiece_c237 (fn10_go s (1 : Int32)) v3 (2 : Int32)))))) ∧ (¬ (fn10_isScript (fn10_go s (1 : Int32)) (v1 + (1 : Int32)) v3) = 0 → (wp10_textPiece_c237 (fn10_go s (1 : Int32)) v3 (1 : Int32))))))
set_option maxRecDepth 100000 in
set_option maxHeartbeats 4000000 in
theorem rc10_textPiece_185 (s : hs) (v1 : Int32) (v3 : Int32) (j2 : Option am_V) (j4 : Option am_V) (g2 : am_loO 22 j2 = true) (g4 : am_loO 22 j4 = true) (hp : wp10_textPiece_c185 s v1 v3) : am_lf (am_mk kb10_textPiece 0 0 22) [72, 73, 84, 185, 237] (185, [some (.inr (.inl 0)), some (.inl v1), j2, some (.inl v3), j4], [], (hm_w s), 0, 0) = some (some (.inl ((fn10_textPiece_c185 s v1 v3).1)), (hm_w ((fn10_textPiece_c185 s v1 v3).2))) := by
  unfold wp10_textPiece_c185 at hp
  have i237 := @rc10_textPiece_237
  refine am_lf_eq ?_
  generalize am_lf (am_mk kb10_textPiece 0 0 22) [72, 73, 84, 185, 237] = kt at i237 ⊢
  refine am_cx (pre := pr10_go) (f := fm10_go) (r := (none, (hm_w (fn10_go s (1 : Int32))), 0, 0)) ?_ ?_ ?_ ?_
  · exact ⟨s, (1 : Int32), rfl, rfl, hp.1⟩
  · exact fe10_go s (1 : Int32)
  · exact (am_ac rfl (am_ac rfl (am_ac g2 (am_ac rfl (am_ac g4 am_a0)))))
  refine am_cx (pre := pr10_isScript) (f := fm10_isScript) (r := (some (.inl (fn10_isScript (fn10_go s (1 : Int32)) (v1 + (1 : Int32)) v3)), (hm_w (fn10_go s (1 : Int32))), 0, 0)) ?_ ?_ ?_ ?_
  · exact ⟨(fn10_go s (1 : Int32)), (v1 + (1 : Int32)), v3, rfl, rfl, hp.2.1⟩
  · exact fe10_isScript (fn10_go s (1 : Int32)) (v1 + (1 : Int32)) v3
  · exact (am_ac rfl (am_ac rfl (am_ac g2 (am_ac rfl (am_ac g4 am_a0)))))
  refine am_if (c := (fn10_isScript (fn10_go s (1 : Int32)) (v1 + (1 : Int32)) v3) = 0) (fun h1 => ?_) (fun h1 => ?_)
  · have q1 := hp.2.2.1 h1
    refine am_cx (pre := pr10_isStyle) (f := fm10_isStyle) (r := (some (.inl (fn10_isStyle (fn10_go s (1 : Int32)) (v1 + (1 : Int32)) v3)), (hm_w (fn10_go s (1 : Int32))), 0, 0)) ?_ ?_ ?_ ?_
    · exact ⟨(fn10_go s (1 : Int32)), (v1 + (1 : Int32)), v3, rfl, rfl, q1.1⟩
    · exact fe10_isStyle (fn10_go s (1 : Int32)) (v1 + (1 : Int32)) v3
    · exact (am_ac rfl (am_ac rfl (am_ac g2 (am_ac rfl (am_ac g4 am_a0)))))
    refine am_if (c := (fn10_isStyle (fn10_go s (1 : Int32)) (v1 + (1 : Int32)) v3) = 0) (fun h2 => ?_) (fun h2 => ?_)
    · have q2 := q1.2.1 h2
      refine am_cx (pre := pr10_isTitle) (f := fm10_isTitle) (r := (some (.inl (fn10_isTitle (fn10_go s (1 : Int32)) (v1 + (1 : Int32)) v3)), (hm_w (fn10_go s (1 : Int32))), 0, 0)) ?_ ?_ ?_ ?_
      · exact ⟨(fn10_go s (1 : Int32)), (v1 + (1 : Int32)), v3, rfl, rfl, q2.1⟩
      · exact fe10_isTitle (fn10_go s (1 : Int32)) (v1 + (1 : Int32)) v3
      · exact (am_ac rfl (am_ac rfl (am_ac g2 (am_ac rfl (am_ac g4 am_a0)))))
      refine am_if (c := (fn10_isTitle (fn10_go s (1 : Int32)) (v1 + (1 : Int32)) v3) = 0) (fun h3 => ?_) (fun h3 => ?_)
      · have q3 := q2.2.1 h3
        have e : fn10_textPiece_c185 s v1 v3 = fn10_textPiece_c237 (fn10_go s (1 : Int32)) v3 (0 : Int32) := by
          rw [fn10_textPiece_c185]
          rw [if_pos h1, if_pos h2, if_pos h3]
        rw [e]
        exact i237 (fn10_go s (1 : Int32)) v3 (0 : Int32) _ _ _ rfl g2 g4 q3
      · have q3 := q2.2.2 h3
        have e : fn10_textPiece_c185 s v1 v3 = fn10_textPiece_c237 (fn10_go s (1 : Int32)) v3 (3 : Int32) := by
          rw [fn10_textPiece_c185]
          rw [if_pos h1, if_pos h2, if_neg h3]
        rw [e]
        exact i237 (fn10_go s (1 : Int32)) v3 (3 : Int32) _ _ _ rfl g2 g4 q3
    · have q2 := q1.2.2 h2
      have e : fn10_textPiece_c185 s v1 v3 = fn10_textPiece_c237 (fn10_go s (1 : Int32)) v3 (2 : Int32) := by
        rw [fn10_textPiece_c185]
        rw [if_pos h1, if_neg h2]
      rw [e]
      exact i237 (fn10_go s (1 : Int32)) v3 (2 : Int32) _ _ _ rfl g2 g4 q2
  · have q1 := hp.2.2.2 h1
    have e : fn10_textPiece_c185 s v1 v3 = fn10_textPiece_c237 (fn10_go s (1 : Int32)) v3 (1 : Int32) := by
      rw [fn10_textPiece_c185]
      rw [if_neg h1]
    rw [e]
    exact i237 (fn10_go s (1 : Int32)) v3 (1 : Int32) _ _ _ rfl g2 g4 q1
noncomputable def fn10_textPiece (s : hs) (p0 : Int32) : Int32 × hs := Classical.choose (⟨_, rfl⟩ : ∃ z : Int32 × hs, z = (if (fn10_ch s p0) = (38 : Int32) then (if (fn10_isAmpersand s p0) = 0 then ((0 : Int32), s) else ((1 : Int32), s)) else (if (fn10_ch s p0) = (60 : Int32) then (if (fn10_begins s p0 (33 : Int32)) = 0 then (if (fn10_begins s p0 (47 : Int32)) = 0 then (if (fn10_lettersFrom s (p0 + (1 : Int32))) = 0 then ((0 : Int32), s) else (if (fn10_isBlank (fn10_ch s ((p0 + (1 : Int32)) + (fn10_lettersFrom s (p0 + (1 : Int32)))))) = 0 then (if (fn10_ch s ((p0 + (1 : Int32)) + (fn10_lettersFrom s (p0 + (1 : Int32))))) = (47 : Int32) then (fn10_textPiece_c185 s p0 (fn10_lettersFrom s (p0 + (1 : Int32)))) else (if (fn10_ch s ((p0 + (1 : Int32)) + (fn10_lettersFrom s (p0 + (1 : Int32))))) = (62 : Int32) then (fn10_textPiece_c185 s p0 (fn10_lettersFrom s (p0 + (1 : Int32)))) else ((0 : Int32), s))) else (fn10_textPiece_c185 s p0 (fn10_lettersFrom s (p0 + (1 : Int32)))))) else (if (fn10_lettersFrom s (p0 + (2 : Int32))) ≤ 0 then ((0 : Int32), s) else (if (fn10_ch s ((p0 + (2 : Int32)) + (fn10_lettersFrom s (p0 + (2 : Int32))))) = (62 : Int32) then (((fn10_lettersFrom s (p0 + (2 : Int32))) + (3 : Int32)), s) else ((0 : Int32), s)))) else (if (fn10_ch s (p0 + (2 : Int32))) = (45 : Int32) then (if (fn10_ch s (p0 + (3 : Int32))) = (45 : Int32) then (fn10_textPiece_c73 s (1 : Int32)) else (fn10_textPiece_c72 s)) else (fn10_textPiece_c72 s))) else ((1 : Int32), s))))
theorem fq10_textPiece (s : hs) (p0 : Int32) : fn10_textPiece s p0 = (if (fn10_ch s p0) = (38 : Int32) then (if (fn10_isAmpersand s p0) = 0 then ((0 : Int32), s) else ((1 : Int32), s)) else (if (fn10_ch s p0) = (60 : Int32) then (if (fn10_begins s p0 (33 : Int32)) = 0 then (if (fn10_begins s p0 (47 : Int32)) = 0 then (if (fn10_lettersFrom s (p0 + (1 : Int32))) = 0 then ((0 : Int32), s) else (if (fn10_isBlank (fn10_ch s ((p0 + (1 : Int32)) + (fn10_lettersFrom s (p0 + (1 : Int32)))))) = 0 then (if (fn10_ch s ((p0 + (1 : Int32)) + (fn10_lettersFrom s (p0 + (1 : Int32))))) = (47 : Int32) then (fn10_textPiece_c185 s p0 (fn10_lettersFrom s (p0 + (1 : Int32)))) else (if (fn10_ch s ((p0 + (1 : Int32)) + (fn10_lettersFrom s (p0 + (1 : Int32))))) = (62 : Int32) then (fn10_textPiece_c185 s p0 (fn10_lettersFrom s (p0 + (1 : Int32)))) else ((0 : Int32), s))) else (fn10_textPiece_c185 s p0 (fn10_lettersFrom s (p0 + (1 : Int32)))))) else (if (fn10_lettersFrom s (p0 + (2 : Int32))) ≤ 0 then ((0 : Int32), s) else (if (fn10_ch s ((p0 + (2 : Int32)) + (fn10_lettersFrom s (p0 + (2 : Int32))))) = (62 : Int32) then (((fn10_lettersFrom s (p0 + (2 : Int32))) + (3 : Int32)), s) else ((0 : Int32), s)))) else (if (fn10_ch s (p0 + (2 : Int32))) = (45 : Int32) then (if (fn10_ch s (p0 + (3 : Int32))) = (45 : Int32) then (fn10_textPiece_c73 s (1 : Int32)) else (fn10_textPiece_c72 s)) else (fn10_textPiece_c72 s))) else ((1 : Int32), s))) := Classical.choose_spec (⟨_, rfl⟩ : ∃ z : Int32 × hs, z = (if (fn10_ch s p0) = (38 : Int32) then (if (fn10_isAmpersand s p0) = 0 then ((0 : Int32), s) else ((1 : Int32), s)) else (if (fn10_ch s p0) = (60 : Int32) then (if (fn10_begins s p0 (33 : Int32)) = 0 then (if (fn10_begins s p0 (47 : Int32)) = 0 then (if (fn10_lettersFrom s (p0 + (1 : Int32))) = 0 then ((0 : Int32), s) else (if (fn10_isBlank (fn10_ch s ((p0 + (1 : Int32)) + (fn10_lettersFrom s (p0 + (1 : Int32)))))) = 0 then (if (fn10_ch s ((p0 + (1 : Int32)) + (fn10_lettersFrom s (p0 + (1 : Int32))))) = (47 : Int32) then (fn10_textPiece_c185 s p0 (fn10_lettersFrom s (p0 + (1 : Int32)))) else (if (fn10_ch s ((p0 + (1 : Int32)) + (fn10_lettersFrom s (p0 + (1 : Int32))))) = (62 : Int32) then (fn10_textPiece_c185 s p0 (fn10_lettersFrom s (p0 + (1 : Int32)))) else ((0 : Int32), s))) else (fn10_textPiece_c185 s p0 (fn10_lettersFrom s (p0 + (1 : Int32)))))) else (if (fn10_lettersFrom s (p0 + (2 : Int32))) ≤ 0 then ((0 : Int32), s) else (if (fn10_ch s ((p0 + (2 : Int32)) + (fn10_lettersFrom s (p0 + (2 : Int32))))) = (62 : Int32) then (((fn10_lettersFrom s (p0 + (2 : Int32))) + (3 : Int32)), s) else ((0 : Int32), s)))) else (if (fn10_ch s (p0 + (2 : Int32))) = (45 : Int32) then (if (fn10_ch s (p0 + (3 : Int32))) = (45 : Int32) then (fn10_textPiece_c73 s (1 : Int32)) else (fn10_textPiece_c72 s)) else (fn10_textPiece_c72 s))) else ((1 : Int32), s))))
def wp10_textPiece (s : hs) (p0 : Int32) : Prop := ((wp10_ch s p0) ∧ (((fn10_ch s p0) = (38 : Int32) → (wp10_isAmpersand s p0)) ∧ (¬ (fn10_ch s p0) = (38 : Int32) → (((fn10_ch s p0) = (60 : Int32) → ((wp10_begins s p0 (33 : Int32)) ∧ (((fn10_begins s p0 (33 : Int32)) = 0 → ((wp10_begins s p0 (47 : Int32)) ∧ (((fn10_begins s p0 (47 : Int32)) = 0 → ((wp10_lettersFrom s (p0 + (1 : Int32))) ∧ ((wp10_ch s ((p0 + (1 : Int32)) + (fn10_lettersFrom s (p0 + (1 : Int32))))) ∧ (((fn10_lettersFrom s (p0 + (1 : Int32))) = 0 → True) ∧ (¬ (fn10_lettersFrom s (p0 + (1 : Int32))) = 0 → ((wp10_isBlank (fn10_ch s ((p0 + (1 : Int32)) + (fn10_lettersFrom s (p0 + (1 : Int32)))))) ∧ (((fn10_isBlank (fn10_ch s ((p0 + (1 : Int32)) + (fn10_lettersFrom s (p0 + (1 : Int32)))))) = 0 → (((fn10_ch s ((p0 + (1 : Int32)) + (fn10_lettersFrom s (p0 + (1 : Int32))))) = (47 : Int32) → (wp10_textPiece_c185 s p0 (fn10_lettersFrom s (p0 + (1 : Int32))))) ∧ (¬ (fn10_ch s ((p0 + (1 : Int32)) + (fn10_lettersFrom s (p0 + (1 : Int32))))) = (47 : Int32) → (((fn10_ch s ((p0 + (1 : Int32)) + (fn10_lettersFrom s (p0 + (1 : Int32))))) = (62 : Int32) → (wp10_textPiece_c185 s p0 (fn10_lettersFrom s (p0 + (1 : Int32))))) ∧ (¬ (fn10_ch s ((p0 + (1 : Int32)) + (fn10_lettersFrom s (p0 + (1 : Int32))))) = (62 : Int32) → True))))) ∧ (¬ (fn10_isBlank (fn10_ch s ((p0 + (1 : Int32)) + (fn10_lettersFrom s (p0 + (1 : Int32)))))) = 0 → (wp10_textPiece_c185 s p0 (fn10_lettersFrom s (p0 + (1 : Int32)))))))))))) ∧ (¬ (fn10_begins s p0 (47 : Int32)) = 0 → ((wp10_lettersFrom s (p0 + (2 : Int32))) ∧ (((fn10_lettersFrom s (p0 + (2 : Int32))) ≤ 0 → True) ∧ (¬ (fn10_lettersFrom s (p0 + (2 : Int32))) ≤ 0 → (wp10_ch s ((p0 + (2 : Int32)) + (fn10_lettersFrom s (p0 + (2 : Int32)))))))))))) ∧ (¬ (fn10_begins s p0 (33 : Int32)) = 0 → ((wp10_ch s (p0 + (2 : Int32))) ∧ (((fn10_ch s (p0 + (2 : Int32))) = (45 : Int32) → ((wp10_ch s (p0 + (3 : Int32))) ∧ (((fn10_ch s (p0 + (3 : Int32))) = (45 : Int32) → (wp10_textPiece_c73 s (1 : Int32))) ∧ (¬ (fn10_ch s (p0 + (3 : Int32))) = (45 : Int32) → (wp10_textPiece_c72 s))))) ∧ (¬ (fn10_ch s (p0 + (2 : Int32))) = (45 : Int32) → (wp10_textPiece_c72 s)))))))) ∧ (¬ (fn10_ch s p0) = (60 : Int32) → True)))))
set_option maxRecDepth 100000 in
set_option maxHeartbeats 4000000 in
theorem re10_textPiece (s : hs) (p0 : Int32) (hp : wp10_textPiece s p0) : am_lf (am_mk kb10_textPiece 0 0 22) [72, 73, 84, 185, 237] (0, am_L0 [.inr (.inl 0), .inl p0] 5, [], (hm_w s), 0, 0) = some (some (.inl ((fn10_textPiece s p0).1)), (hm_w ((fn10_textPiece s p0).2))) := by
  unfold wp10_textPiece at hp
  have i72 := @rc10_textPiece_72
  have i73 := @rc10_textPiece_73
  have i185 := @rc10_textPiece_185
  refine am_lf_eq ?_
  generalize am_lf (am_mk kb10_textPiece 0 0 22) [72, 73, 84, 185, 237] = kt at i72 i73 i185 ⊢
  refine am_cx (pre := pr10_ch) (f := fm10_ch) (r := (some (.inl (fn10_ch s p0)), (hm_w s), 0, 0)) ?_ ?_ ?_ ?_
  · exact ⟨s, p0, rfl, rfl, hp.1⟩
  · exact fe10_ch s p0
  · exact rfl
  refine am_if (c := (fn10_ch s p0) = (38 : Int32)) (fun h1 => ?_) (fun h1 => ?_)
  · have q1 := hp.2.1 h1
    refine am_cx (pre := pr10_isAmpersand) (f := fm10_isAmpersand) (r := (some (.inl (fn10_isAmpersand s p0)), (hm_w s), 0, 0)) ?_ ?_ ?_ ?_
    · exact ⟨s, p0, rfl, rfl, q1⟩
    · exact fe10_isAmpersand s p0
    · exact rfl
    refine am_if (c := (fn10_isAmpersand s p0) = 0) (fun h2 => ?_) (fun h2 => ?_)
    · have e : fn10_textPiece s p0 = ((0 : Int32), s) := by
        rw [fq10_textPiece]
        rw [if_pos h1, if_pos h2]
      rw [e] <;> rfl
    · have e : fn10_textPiece s p0 = ((1 : Int32), s) := by
        rw [fq10_textPiece]
        rw [if_pos h1, if_neg h2]
      rw [e] <;> rfl
  · have q1 := hp.2.2 h1
    refine am_if (c := (fn10_ch s p0) = (60 : Int32)) (fun h2 => ?_) (fun h2 => ?_)
    · have q2 := q1.1 h2
      refine am_cx (pre := pr10_begins) (f := fm10_begins) (r := (some (.inl (fn10_begins s p0 (33 : Int32))), (hm_w s), 0, 0)) ?_ ?_ ?_ ?_
      · exact ⟨s, p0, (33 : Int32), rfl, rfl, q2.1⟩
      · exact fe10_begins s p0 (33 : Int32)
      · exact rfl
      refine am_if (c := (fn10_begins s p0 (33 : Int32)) = 0) (fun h3 => ?_) (fun h3 => ?_)
      · have q3 := q2.2.1 h3
        refine am_cx (pre := pr10_begins) (f := fm10_begins) (r := (some (.inl (fn10_begins s p0 (47 : Int32))), (hm_w s), 0, 0)) ?_ ?_ ?_ ?_
        · exact ⟨s, p0, (47 : Int32), rfl, rfl, q3.1⟩
        · exact fe10_begins s p0 (47 : Int32)
        · exact rfl
        refine am_if (c := (fn10_begins s p0 (47 : Int32)) = 0) (fun h4 => ?_) (fun h4 => ?_)
        · have q4 := q3.2.1 h4
          refine am_cx (pre := pr10_lettersFrom) (f := fm10_lettersFrom) (r := (some (.inl (fn10_lettersFrom s (p0 + (1 : Int32)))), (hm_w s), 0, 0)) ?_ ?_ ?_ ?_
          · exact ⟨s, (p0 + (1 : Int32)), rfl, rfl, q4.1⟩
          · exact fe10_lettersFrom s (p0 + (1 : Int32))
          · exact rfl
          refine am_cx (pre := pr10_ch) (f := fm10_ch) (r := (some (.inl (fn10_ch s ((p0 + (1 : Int32)) + (fn10_lettersFrom s (p0 + (1 : Int32)))))), (hm_w s), 0, 0)) ?_ ?_ ?_ ?_
          · exact ⟨s, ((p0 + (1 : Int32)) + (fn10_lettersFrom s (p0 + (1 : Int32)))), rfl, rfl, q4.2.1⟩
          · exact fe10_ch s ((p0 + (1 : Int32)) + (fn10_lettersFrom s (p0 + (1 : Int32))))
          · exact rfl
          refine am_if (c := (fn10_lettersFrom s (p0 + (1 : Int32))) = 0) (fun h5 => ?_) (fun h5 => ?_)
          · have e : fn10_textPiece s p0 = ((0 : Int32), s) := by
              rw [fq10_textPiece]
              rw [if_neg h1, if_pos h2, if_pos h3, if_pos h4, if_pos h5]
            rw [e] <;> rfl
          · have q5 := q4.2.2.2 h5
            refine am_cy (pre := pr10_isBlank) (f := fm10_isBlank) (a' := [.inl (fn10_ch s ((p0 + (1 : Int32)) + (fn10_lettersFrom s (p0 + (1 : Int32)))))]) (wc := []) (w' := (hm_w s)) (r := (some (.inl (fn10_isBlank (fn10_ch s ((p0 + (1 : Int32)) + (fn10_lettersFrom s (p0 + (1 : Int32))))))), [], 0, 0)) ?_ ?_ ?_ ?_ ?_ ?_ ?_ ?_ ?_ ?_
            · exact am_sow0 _
            · rfl
            · rfl
            · exact am_sub0 _
            · exact ⟨(fn10_ch s ((p0 + (1 : Int32)) + (fn10_lettersFrom s (p0 + (1 : Int32))))), rfl, rfl, q5.1⟩
            · exact fe10_isBlank (fn10_ch s ((p0 + (1 : Int32)) + (fn10_lettersFrom s (p0 + (1 : Int32)))))
            · exact rfl
            · rfl
            · exact am_mix0 _
            refine am_if (c := (fn10_isBlank (fn10_ch s ((p0 + (1 : Int32)) + (fn10_lettersFrom s (p0 + (1 : Int32)))))) = 0) (fun h6 => ?_) (fun h6 => ?_)
            · have q6 := q5.2.1 h6
              refine am_if (c := (fn10_ch s ((p0 + (1 : Int32)) + (fn10_lettersFrom s (p0 + (1 : Int32))))) = (47 : Int32)) (fun h7 => ?_) (fun h7 => ?_)
              · have q7 := q6.1 h7
                have e : fn10_textPiece s p0 = fn10_textPiece_c185 s p0 (fn10_lettersFrom s (p0 + (1 : Int32))) := by
                  rw [fq10_textPiece]
                  rw [if_neg h1, if_pos h2, if_pos h3, if_pos h4, if_neg h5, if_pos h6, if_pos h7]
                rw [e]
                exact i185 s p0 (fn10_lettersFrom s (p0 + (1 : Int32))) _ _ rfl rfl q7
              · have q7 := q6.2 h7
                refine am_if (c := (fn10_ch s ((p0 + (1 : Int32)) + (fn10_lettersFrom s (p0 + (1 : Int32))))) = (62 : Int32)) (fun h8 => ?_) (fun h8 => ?_)
                · have q8 := q7.1 h8
                  have e : fn10_textPiece s p0 = fn10_textPiece_c185 s p0 (fn10_lettersFrom s (p0 + (1 : Int32))) := by
                    rw [fq10_textPiece]
                    rw [if_neg h1, if_pos h2, if_pos h3, if_pos h4, if_neg h5, if_pos h6, if_neg h7, if_pos h8]
                  rw [e]
                  exact i185 s p0 (fn10_lettersFrom s (p0 + (1 : Int32))) _ _ rfl rfl q8
                · have e : fn10_textPiece s p0 = ((0 : Int32), s) := by
                    rw [fq10_textPiece]
                    rw [if_neg h1, if_pos h2, if_pos h3, if_pos h4, if_neg h5, if_pos h6, if_neg h7, if_neg h8]
                  rw [e] <;> rfl
            · have q6 := q5.2.2 h6
              have e : fn10_textPiece s p0 = fn10_textPiece_c185 s p0 (fn10_lettersFrom s (p0 + (1 : Int32))) := by
                rw [fq10_textPiece]
                rw [if_neg h1, if_pos h2, if_pos h3, if_pos h4, if_neg h5, if_neg h6]
              rw [e]
              exact i185 s p0 (fn10_lettersFrom s (p0 + (1 : Int32))) _ _ rfl rfl q6
        · have q4 := q3.2.2 h4
          refine am_cx (pre := pr10_lettersFrom) (f := fm10_lettersFrom) (r := (some (.inl (fn10_lettersFrom s (p0 + (2 : Int32)))), (hm_w s), 0, 0)) ?_ ?_ ?_ ?_
          · exact ⟨s, (p0 + (2 : Int32)), rfl, rfl, q4.1⟩
          · exact fe10_lettersFrom s (p0 + (2 : Int32))
          · exact rfl
          refine am_if (c := (fn10_lettersFrom s (p0 + (2 : Int32))) ≤ 0) (fun h5 => ?_) (fun h5 => ?_)
          · have e : fn10_textPiece s p0 = ((0 : Int32), s) := by
              rw [fq10_textPiece]
              rw [if_neg h1, if_pos h2, if_pos h3, if_neg h4, if_pos h5]
            rw [e] <;> rfl
          · have q5 := q4.2.2 h5
            refine am_cx (pre := pr10_ch) (f := fm10_ch) (r := (some (.inl (fn10_ch s ((p0 + (2 : Int32)) + (fn10_lettersFrom s (p0 + (2 : Int32)))))), (hm_w s), 0, 0)) ?_ ?_ ?_ ?_
            · exact ⟨s, ((p0 + (2 : Int32)) + (fn10_lettersFrom s (p0 + (2 : Int32)))), rfl, rfl, q5⟩
            · exact fe10_ch s ((p0 + (2 : Int32)) + (fn10_lettersFrom s (p0 + (2 : Int32))))
            · exact rfl
            refine am_if (c := (fn10_ch s ((p0 + (2 : Int32)) + (fn10_lettersFrom s (p0 + (2 : Int32))))) = (62 : Int32)) (fun h6 => ?_) (fun h6 => ?_)
            · have e : fn10_textPiece s p0 = (((fn10_lettersFrom s (p0 + (2 : Int32))) + (3 : Int32)), s) := by
                rw [fq10_textPiece]
                rw [if_neg h1, if_pos h2, if_pos h3, if_neg h4, if_neg h5, if_pos h6]
              rw [e] <;> rfl
            · have e : fn10_textPiece s p0 = ((0 : Int32), s) := by
                rw [fq10_textPiece]
                rw [if_neg h1, if_pos h2, if_pos h3, if_neg h4, if_neg h5, if_neg h6]
              rw [e] <;> rfl
      · have q3 := q2.2.2 h3
        refine am_cx (pre := pr10_ch) (f := fm10_ch) (r := (some (.inl (fn10_ch s (p0 + (2 : Int32)))), (hm_w s), 0, 0)) ?_ ?_ ?_ ?_
        · exact ⟨s, (p0 + (2 : Int32)), rfl, rfl, q3.1⟩
        · exact fe10_ch s (p0 + (2 : Int32))
        · exact rfl
        refine am_if (c := (fn10_ch s (p0 + (2 : Int32))) = (45 : Int32)) (fun h4 => ?_) (fun h4 => ?_)
        · have q4 := q3.2.1 h4
          refine am_cx (pre := pr10_ch) (f := fm10_ch) (r := (some (.inl (fn10_ch s (p0 + (3 : Int32)))), (hm_w s), 0, 0)) ?_ ?_ ?_ ?_
          · exact ⟨s, (p0 + (3 : Int32)), rfl, rfl, q4.1⟩
          · exact fe10_ch s (p0 + (3 : Int32))
          · exact rfl
          refine am_if (c := (fn10_ch s (p0 + (3 : Int32))) = (45 : Int32)) (fun h5 => ?_) (fun h5 => ?_)
          · have q5 := q4.2.1 h5
            have e : fn10_textPiece s p0 = fn10_textPiece_c73 s (1 : Int32) := by
              rw [fq10_textPiece]
              rw [if_neg h1, if_pos h2, if_neg h3, if_pos h4, if_pos h5]
            rw [e]
            exact i73 s (1 : Int32) _ _ _ _ rfl rfl rfl rfl q5
          · have q5 := q4.2.2 h5
            have e : fn10_textPiece s p0 = fn10_textPiece_c72 s := by
              rw [fq10_textPiece]
              rw [if_neg h1, if_pos h2, if_neg h3, if_pos h4, if_neg h5]
            rw [e]
            exact i72 s _ _ _ _ rfl rfl rfl rfl q5
        · have q4 := q3.2.2 h4
          have e : fn10_textPiece s p0 = fn10_textPiece_c72 s := by
            rw [fq10_textPiece]
            rw [if_neg h1, if_pos h2, if_neg h3, if_neg h4]
          rw [e]
          exact i72 s _ _ _ _ rfl rfl rfl rfl q4
    · have e : fn10_textPiece s p0 = ((1 : Int32), s) := by
        rw [fq10_textPiece]
        rw [if_neg h1, if_neg h2]
      rw [e] <;> rfl
abbrev pr10_textPiece : List am_V → List am_C → Prop := fun a w => ∃ (s : hs) (p0 : Int32), a = [.inr (.inl 0), .inl p0] ∧ w = (hm_w s) ∧ wp10_textPiece s p0
noncomputable def fm10_textPiece : am_M := fun a w => (fun (z : Int32 × hs) => (some (.inl (z.1)), (hm_w (z.2)), 0, 0)) (fn10_textPiece (hm_st w 0) (am_i (am_an a 1)))
theorem fe10_textPiece (s : hs) (p0 : Int32) : fm10_textPiece [.inr (.inl 0), .inl p0] (hm_w s) = (some (.inl ((fn10_textPiece s p0).1)), (hm_w ((fn10_textPiece s p0).2)), 0, 0) := rfl
set_option maxRecDepth 100000 in
set_option maxHeartbeats 4000000 in
theorem rn10_textPiece : ∀ (a : List am_V) (w : List am_C), pr10_textPiece a w → ∃ nq, am_ev (am_mk kb10_textPiece (fm10_textPiece a w).2.2.1 (fm10_textPiece a w).2.2.2 w.length) [72, 73, 84, 185, 237] nq (0, am_L0 a 5, [], w, 0, 0) = some ((fm10_textPiece a w).1, (fm10_textPiece a w).2.1) := by
  rintro a w ⟨s, p0, rfl, rfl, hp⟩
  rw [fe10_textPiece s p0]
  exact am_lf_ev (re10_textPiece s p0 hp)
theorem rl10_textPiece : ∀ (a : List am_V) (w : List am_C), pr10_textPiece a w → a.length ≤ 5 := by
  rintro a w ⟨s, p0, rfl, rfl, hp⟩
  exact Nat.le_of_ble_eq_true rfl
theorem pa10_textPiece : ∀ a w, pr10_textPiece a w → ∃ q a' ci fs r, a = .inr (.inl q) :: a' ∧ w[q]? = some (.inr (ci, fs)) ∧ hn_cl[ci]? = some r ∧ r.1 = hn_R10 := by
  rintro a w ⟨s, p0, rfl, rfl, hp⟩
  exact ⟨0, _, 10, _, _, rfl, rfl, rfl, rfl⟩
set_option maxRecDepth 100000 in
set_option maxHeartbeats 4000000 in
theorem km10_textPiece {l : Launch} {E : (Nat → Prop) → State → Prop} {D : va_G} {ou : Nat → Nat} {ca : Nat → ClassId} (hE : am_EC E) : hg_Met l E D ou ca hy10_textPiece prog_12_method_25_code 5 (some .int) 3 pr10_textPiece fm10_textPiece := by
  refine am_met (B := kb10_textPiece) (cuts := [72, 73, 84, 185, 237]) (nt := 5) (by decide +kernel) rfl rfl (hg_tys_ok ca) ?_ (by decide) rl10_textPiece ?_ rn10_textPiece
  · exact fun t ht => List.mem_cons_of_mem _ (hg_arr t ht)
  · intro a w hp ad p e R s m args below meth c hR X hEs hnm
    have hR1 : 3 ≤ R.frames ∧ 120 ≤ R.locals := by rw [hR]; exact ⟨Nat.le_refl _, Nat.le_refl _⟩
    refine ⟨kd10_textPiece_ok, fun index ci fi mode hq => kf10_ok X.2.2.2.2.1 (index, ci, fi, mode) (am_as_mem hq), fun index ci fs hq => (am_no hq).elim, fun x v hq => (am_no hq).elim, ?_, fun o t n f hq => (am_no hq).elim, rfl, rfl, by rw [hR]; exact Nat.le_refl _, by rw [hR]; exact Nat.le_refl _⟩
    intro pc sel n0 pre0 f0 hq
    have hz : ∀ q ∈ ki10_textPiece, am_CK p l e R s m args below meth c D hn_cl (va_A (am_w ad ou ca w) s.heap.size) ou ca 5 q.1 q.2.2.1 q.2.2.2.1 q.2.2.2.2 := by
      refine am_allc (am_ck_V (n := 1) X hEs hE (km10_ch hE) (hg_good (gw_mem 1147 (by decide +kernel))) rfl (List.mem_cons_of_mem _ (gw_mem 76 (by decide +kernel))) (List.mem_cons_of_mem _ (gw_mem 1144 (by decide +kernel))) (List.mem_cons_of_mem _ (gw_mem 1146 (by decide +kernel))) (List.mem_cons_of_mem _ (gw_mem 21 (by decide +kernel))) pa10_ch (by decide +kernel) ⟨Nat.le_trans (by decide) hR1.1, Nat.le_trans (by decide) hR1.2⟩ (kd10_textPiece_ok (2, .invokevirtual 114, 3) (List.mem_of_getElem? (i := 2) rfl))) (am_allc (am_ck_V (n := 1) X hEs hE (km10_isAmpersand hE) (hg_good (gw_mem 1151 (by decide +kernel))) rfl (List.mem_cons_of_mem _ (gw_mem 76 (by decide +kernel))) (List.mem_cons_of_mem _ (gw_mem 1148 (by decide +kernel))) (List.mem_cons_of_mem _ (gw_mem 1150 (by decide +kernel))) (List.mem_cons_of_mem _ (gw_mem 22 (by decide +kernel))) pa10_isAmpersand (by decide +kernel) ⟨Nat.le_trans (by decide) hR1.1, Nat.le_trans (by decide) hR1.2⟩ (kd10_textPiece_ok (14, .invokevirtual 143, 3) (List.mem_of_getElem? (i := 9) rfl))) (am_allc (am_ck_V (n := 2) X hEs hE (km10_begins hE) (hg_good (gw_mem 1161 (by decide +kernel))) rfl (List.mem_cons_of_mem _ (gw_mem 76 (by decide +kernel))) (List.mem_cons_of_mem _ (gw_mem 1158 (by decide +kernel))) (List.mem_cons_of_mem _ (gw_mem 1160 (by decide +kernel))) (List.mem_cons_of_mem _ (gw_mem 23 (by decide +kernel))) pa10_begins (by decide +kernel) ⟨Nat.le_trans (by decide) hR1.1, Nat.le_trans (by decide) hR1.2⟩ (kd10_textPiece_ok (38, .invokevirtual 147, 3) (List.mem_of_getElem? (i := 23) rfl))) (am_allc (am_ck_V (n := 1) X hEs hE (km10_ch hE) (hg_good (gw_mem 1147 (by decide +kernel))) rfl (List.mem_cons_of_mem _ (gw_mem 76 (by decide +kernel))) (List.mem_cons_of_mem _ (gw_mem 1144 (by decide +kernel))) (List.mem_cons_of_mem _ (gw_mem 1146 (by decide +kernel))) (List.mem_cons_of_mem _ (gw_mem 21 (by decide +kernel))) pa10_ch (by decide +kernel) ⟨Nat.le_trans (by decide) hR1.1, Nat.le_trans (by decide) hR1.2⟩ (kd10_textPiece_ok (48, .invokevirtual 114, 3) (List.mem_of_getElem? (i := 29) rfl))) (am_allc (am_ck_V (n := 1) X hEs hE (km10_ch hE) (hg_good (gw_mem 1147 (by decide +kernel))) rfl (List.mem_cons_of_mem _ (gw_mem 76 (by decide +kernel))) (List.mem_cons_of_mem _ (gw_mem 1144 (by decide +kernel))) (List.mem_cons_of_mem _ (gw_mem 1146 (by decide +kernel))) (List.mem_cons_of_mem _ (gw_mem 21 (by decide +kernel))) pa10_ch (by decide +kernel) ⟨Nat.le_trans (by decide) hR1.1, Nat.le_trans (by decide) hR1.2⟩ (kd10_textPiece_ok (60, .invokevirtual 114, 3) (List.mem_of_getElem? (i := 36) rfl))) (am_allc (am_ck_V (n := 1) X hEs hE (km10_go hE) (hg_good (gw_mem 1135 (by decide +kernel))) rfl (List.mem_cons_of_mem _ (gw_mem 76 (by decide +kernel))) (List.mem_cons_of_mem _ (gw_mem 1132 (by decide +kernel))) (List.mem_cons_of_mem _ (gw_mem 1134 (by decide +kernel))) (List.mem_cons_of_mem _ (gw_mem 18 (by decide +kernel))) pa10_go (by decide +kernel) ⟨Nat.le_trans (by decide) hR1.1, Nat.le_trans (by decide) hR1.2⟩ (kd10_textPiece_ok (81, .invokevirtual 151, 3) (List.mem_of_getElem? (i := 47) rfl))) (am_allc (am_ck_V (n := 2) X hEs hE (km10_begins hE) (hg_good (gw_mem 1161 (by decide +kernel))) rfl (List.mem_cons_of_mem _ (gw_mem 76 (by decide +kernel))) (List.mem_cons_of_mem _ (gw_mem 1158 (by decide +kernel))) (List.mem_cons_of_mem _ (gw_mem 1160 (by decide +kernel))) (List.mem_cons_of_mem _ (gw_mem 23 (by decide +kernel))) pa10_begins (by decide +kernel) ⟨Nat.le_trans (by decide) hR1.1, Nat.le_trans (by decide) hR1.2⟩ (kd10_textPiece_ok (98, .invokevirtual 147, 3) (List.mem_of_getElem? (i := 57) rfl))) (am_allc (am_ck_V (n := 1) X hEs hE (km10_lettersFrom hE) (hg_good (gw_mem 1165 (by decide +kernel))) rfl (List.mem_cons_of_mem _ (gw_mem 76 (by decide +kernel))) (List.mem_cons_of_mem _ (gw_mem 1162 (by decide +kernel))) (List.mem_cons_of_mem _ (gw_mem 1164 (by decide +kernel))) (List.mem_cons_of_mem _ (gw_mem 24 (by decide +kernel))) pa10_lettersFrom (by decide +kernel) ⟨Nat.le_trans (by decide) hR1.1, Nat.le_trans (by decide) hR1.2⟩ (kd10_textPiece_ok (108, .invokevirtual 155, 3) (List.mem_of_getElem? (i := 63) rfl))) (am_allc (am_ck_V (n := 1) X hEs hE (km10_ch hE) (hg_good (gw_mem 1147 (by decide +kernel))) rfl (List.mem_cons_of_mem _ (gw_mem 76 (by decide +kernel))) (List.mem_cons_of_mem _ (gw_mem 1144 (by decide +kernel))) (List.mem_cons_of_mem _ (gw_mem 1146 (by decide +kernel))) (List.mem_cons_of_mem _ (gw_mem 21 (by decide +kernel))) pa10_ch (by decide +kernel) ⟨Nat.le_trans (by decide) hR1.1, Nat.le_trans (by decide) hR1.2⟩ (kd10_textPiece_ok (122, .invokevirtual 114, 3) (List.mem_of_getElem? (i := 73) rfl))) (am_allc (am_ck_V (n := 1) X hEs hE (km10_lettersFrom hE) (hg_good (gw_mem 1165 (by decide +kernel))) rfl (List.mem_cons_of_mem _ (gw_mem 76 (by decide +kernel))) (List.mem_cons_of_mem _ (gw_mem 1162 (by decide +kernel))) (List.mem_cons_of_mem _ (gw_mem 1164 (by decide +kernel))) (List.mem_cons_of_mem _ (gw_mem 24 (by decide +kernel))) pa10_lettersFrom (by decide +kernel) ⟨Nat.le_trans (by decide) hR1.1, Nat.le_trans (by decide) hR1.2⟩ (kd10_textPiece_ok (142, .invokevirtual 155, 3) (List.mem_of_getElem? (i := 86) rfl))) (am_allc (am_ck_V (n := 1) X hEs hE (km10_ch hE) (hg_good (gw_mem 1147 (by decide +kernel))) rfl (List.mem_cons_of_mem _ (gw_mem 76 (by decide +kernel))) (List.mem_cons_of_mem _ (gw_mem 1144 (by decide +kernel))) (List.mem_cons_of_mem _ (gw_mem 1146 (by decide +kernel))) (List.mem_cons_of_mem _ (gw_mem 21 (by decide +kernel))) pa10_ch (by decide +kernel) ⟨Nat.le_trans (by decide) hR1.1, Nat.le_trans (by decide) hR1.2⟩ (kd10_textPiece_ok (152, .invokevirtual 114, 3) (List.mem_of_getElem? (i := 94) rfl))) (am_allc (am_ck_S (n := 1) X hEs hE (km10_isBlank hE) (hg_good (gw_mem 1168 (by decide +kernel))) rfl (List.mem_cons_of_mem _ (gw_mem 76 (by decide +kernel))) (List.mem_cons_of_mem _ (gw_mem 1166 (by decide +kernel))) (List.mem_cons_of_mem _ (gw_mem 1167 (by decide +kernel))) (by decide +kernel) ⟨Nat.le_trans (by decide) hR1.1, Nat.le_trans (by decide) hR1.2⟩ (kd10_textPiece_ok (163, .invokestatic 117, 3) (List.mem_of_getElem? (i := 99) rfl))) (am_allc (am_ck_V (n := 1) X hEs hE (km10_go hE) (hg_good (gw_mem 1135 (by decide +kernel))) rfl (List.mem_cons_of_mem _ (gw_mem 76 (by decide +kernel))) (List.mem_cons_of_mem _ (gw_mem 1132 (by decide +kernel))) (List.mem_cons_of_mem _ (gw_mem 1134 (by decide +kernel))) (List.mem_cons_of_mem _ (gw_mem 18 (by decide +kernel))) pa10_go (by decide +kernel) ⟨Nat.le_trans (by decide) hR1.1, Nat.le_trans (by decide) hR1.2⟩ (kd10_textPiece_ok (187, .invokevirtual 151, 3) (List.mem_of_getElem? (i := 111) rfl))) (am_allc (am_ck_V (n := 2) X hEs hE (km10_isScript hE) (hg_good (gw_mem 1172 (by decide +kernel))) rfl (List.mem_cons_of_mem _ (gw_mem 76 (by decide +kernel))) (List.mem_cons_of_mem _ (gw_mem 1169 (by decide +kernel))) (List.mem_cons_of_mem _ (gw_mem 1171 (by decide +kernel))) (List.mem_cons_of_mem _ (gw_mem 25 (by decide +kernel))) pa10_isScript (by decide +kernel) ⟨Nat.le_trans (by decide) hR1.1, Nat.le_trans (by decide) hR1.2⟩ (kd10_textPiece_ok (196, .invokevirtual 158, 3) (List.mem_of_getElem? (i := 118) rfl))) (am_allc (am_ck_V (n := 2) X hEs hE (km10_isStyle hE) (hg_good (gw_mem 1180 (by decide +kernel))) rfl (List.mem_cons_of_mem _ (gw_mem 76 (by decide +kernel))) (List.mem_cons_of_mem _ (gw_mem 1177 (by decide +kernel))) (List.mem_cons_of_mem _ (gw_mem 1179 (by decide +kernel))) (List.mem_cons_of_mem _ (gw_mem 27 (by decide +kernel))) pa10_isStyle (by decide +kernel) ⟨Nat.le_trans (by decide) hR1.1, Nat.le_trans (by decide) hR1.2⟩ (kd10_textPiece_ok (211, .invokevirtual 162, 3) (List.mem_of_getElem? (i := 127) rfl))) (am_allc (am_ck_V (n := 2) X hEs hE (km10_isTitle hE) (hg_good (gw_mem 1184 (by decide +kernel))) rfl (List.mem_cons_of_mem _ (gw_mem 76 (by decide +kernel))) (List.mem_cons_of_mem _ (gw_mem 1181 (by decide +kernel))) (List.mem_cons_of_mem _ (gw_mem 1183 (by decide +kernel))) (List.mem_cons_of_mem _ (gw_mem 28 (by decide +kernel))) pa10_isTitle (by decide +kernel) ⟨Nat.le_trans (by decide) hR1.1, Nat.le_trans (by decide) hR1.2⟩ (kd10_textPiece_ok (226, .invokevirtual 165, 3) (List.mem_of_getElem? (i := 136) rfl))) (am_all0))))))))))))))))
    exact hz _ (am_as_mem hq)
noncomputable def ki10_kindOf : List (Nat × Option (List Nat) × Nat × (List am_V → List am_C → Prop) × am_M) := [(16, none, 10, pr10_spells, fm10_spells), (38, none, 10, pr10_spells, fm10_spells), (61, none, 10, pr10_spells, fm10_spells), (84, none, 3, pr10_isStyle, fm10_isStyle), (101, none, 2, pr10_ch, fm10_ch), (113, none, 2, pr10_ch, fm10_ch)]
noncomputable def kb10_kindOf : am_B := (kd10_kindOf, am_as kf10, hn_ty, fun _ => none, fun _ => none, am_as ki10_kindOf, fun _ => none, 5, 4, (some .int))
noncomputable def fn10_kindOf_c72 (s : hs) (v1 : Int32) (v2 : Int32) (u0 : Int32) : Int32 := (if u0 = 0 then (if (fn10_isStyle s v1 v2) = 0 then (if v2 ≤ (1 : Int32) then (0 : Int32) else (if (fn10_ch s v1) = (111 : Int32) then (if (fn10_ch s (v1 + (1 : Int32))) = (110 : Int32) then (2 : Int32) else (0 : Int32)) else (0 : Int32))) else (3 : Int32)) else (1 : Int32))
def wp10_kindOf_c72 (s : hs) (v1 : Int32) (v2 : Int32) (u0 : Int32) : Prop := ((u0 = 0 → ((wp10_isStyle s v1 v2) ∧ (((fn10_isStyle s v1 v2) = 0 → ((v2 ≤ (1 : Int32) → True) ∧ (¬ v2 ≤ (1 : Int32) → ((wp10_ch s v1) ∧ (((fn10_ch s v1) = (111 : Int32) → (wp10_ch s (v1 + (1 : Int32)))) ∧ (¬ (fn10_ch s v1) = (111 : Int32) → True)))))) ∧ (¬ (fn10_isStyle s v1 v2) = 0 → True)))) ∧ (¬ u0 = 0 → True))
set_option maxRecDepth 100000 in
set_option maxHeartbeats 4000000 in
theorem rc10_kindOf_72 (s : hs) (v1 : Int32) (v2 : Int32) (u0 : Int32) (j3 : Option am_V) (g3 : am_loO 22 j3 = true) (hp : wp10_kindOf_c72 s v1 v2 u0) : am_lf (am_mk kb10_kindOf 0 0 22) [67, 72] (72, [some (.inr (.inl 0)), some (.inl v1), some (.inl v2), j3], [.inl u0], (hm_w s), 0, 0) = some (some (.inl (fn10_kindOf_c72 s v1 v2 u0)), (hm_w s)) := by
  unfold wp10_kindOf_c72 at hp
  refine am_lf_eq ?_
  generalize am_lf (am_mk kb10_kindOf 0 0 22) [67, 72] = kt
  refine am_if (c := u0 = 0) (fun h1 => ?_) (fun h1 => ?_)
  · have q1 := hp.1 h1
    refine am_cx (pre := pr10_isStyle) (f := fm10_isStyle) (r := (some (.inl (fn10_isStyle s v1 v2)), (hm_w s), 0, 0)) ?_ ?_ ?_ ?_
    · exact ⟨s, v1, v2, rfl, rfl, q1.1⟩
    · exact fe10_isStyle s v1 v2
    · exact rfl
    refine am_if (c := (fn10_isStyle s v1 v2) = 0) (fun h2 => ?_) (fun h2 => ?_)
    · have q2 := q1.2.1 h2
      refine am_if (c := v2 ≤ (1 : Int32)) (fun h3 => ?_) (fun h3 => ?_)
      · have e : fn10_kindOf_c72 s v1 v2 u0 = (0 : Int32) := by
          rw [fn10_kindOf_c72]
          rw [if_pos h1, if_pos h2, if_pos h3]
        rw [e] <;> rfl
      · have q3 := q2.2 h3
        refine am_cx (pre := pr10_ch) (f := fm10_ch) (r := (some (.inl (fn10_ch s v1)), (hm_w s), 0, 0)) ?_ ?_ ?_ ?_
        · exact ⟨s, v1, rfl, rfl, q3.1⟩
        · exact fe10_ch s v1
        · exact rfl
        refine am_if (c := (fn10_ch s v1) = (111 : Int32)) (fun h4 => ?_) (fun h4 => ?_)
        · have q4 := q3.2.1 h4
          refine am_cx (pre := pr10_ch) (f := fm10_ch) (r := (some (.inl (fn10_ch s (v1 + (1 : Int32)))), (hm_w s), 0, 0)) ?_ ?_ ?_ ?_
          · exact ⟨s, (v1 + (1 : Int32)), rfl, rfl, q4⟩
          · exact fe10_ch s (v1 + (1 : Int32))
          · exact rfl
          refine am_if (c := (fn10_ch s (v1 + (1 : Int32))) = (110 : Int32)) (fun h5 => ?_) (fun h5 => ?_)
          · have e : fn10_kindOf_c72 s v1 v2 u0 = (2 : Int32) := by
              rw [fn10_kindOf_c72]
              rw [if_pos h1, if_pos h2, if_neg h3, if_pos h4, if_pos h5]
            rw [e] <;> rfl
          · have e : fn10_kindOf_c72 s v1 v2 u0 = (0 : Int32) := by
              rw [fn10_kindOf_c72]
              rw [if_pos h1, if_pos h2, if_neg h3, if_pos h4, if_neg h5]
            rw [e] <;> rfl
        · have e : fn10_kindOf_c72 s v1 v2 u0 = (0 : Int32) := by
            rw [fn10_kindOf_c72]
            rw [if_pos h1, if_pos h2, if_neg h3, if_neg h4]
          rw [e] <;> rfl
    · have e : fn10_kindOf_c72 s v1 v2 u0 = (3 : Int32) := by
        rw [fn10_kindOf_c72]
        rw [if_pos h1, if_neg h2]
      rw [e] <;> rfl
  · have e : fn10_kindOf_c72 s v1 v2 u0 = (1 : Int32) := by
      rw [fn10_kindOf_c72]
      rw [if_neg h1]
    rw [e] <;> rfl
noncomputable def fn10_kindOf_c67 (s : hs) (v1 : Int32) (v2 : Int32) : Int32 := (fn10_kindOf_c72 s v1 v2 (1 : Int32))
def wp10_kindOf_c67 (s : hs) (v1 : Int32) (v2 : Int32) : Prop := (wp10_kindOf_c72 s v1 v2 (1 : Int32))
set_option maxRecDepth 100000 in
set_option maxHeartbeats 4000000 in
theorem rc10_kindOf_67 (s : hs) (v1 : Int32) (v2 : Int32) (j3 : Option am_V) (g3 : am_loO 22 j3 = true) (hp : wp10_kindOf_c67 s v1 v2) : am_lf (am_mk kb10_kindOf 0 0 22) [67, 72] (67, [some (.inr (.inl 0)), some (.inl v1), some (.inl v2), j3], [], (hm_w s), 0, 0) = some (some (.inl (fn10_kindOf_c67 s v1 v2)), (hm_w s)) := by
  unfold wp10_kindOf_c67 at hp
  have i72 := @rc10_kindOf_72
  refine am_lf_eq ?_
  generalize am_lf (am_mk kb10_kindOf 0 0 22) [67, 72] = kt at i72 ⊢
  have e : fn10_kindOf_c67 s v1 v2 = fn10_kindOf_c72 s v1 v2 (1 : Int32) := by
    rw [fn10_kindOf_c67]
  rw [e]
  exact i72 s v1 v2 (1 : Int32) _ g3 hp
noncomputable def fn10_kindOf (s : hs) (p0 : Int32) (p1 : Int32) : Int32 := Classical.choose (⟨_, rfl⟩ : ∃ z : Int32, z = (if (fn10_spells s p0 p1 (4 : Int32) (104 : Int32) (114 : Int32) (101 : Int32) (102 : Int32) (102 : Int32) (102 : Int32)) = 0 then (if (fn10_spells s p0 p1 (3 : Int32) (115 : Int32) (114 : Int32) (99 : Int32) (99 : Int32) (99 : Int32) (99 : Int32)) = 0 then (if (fn10_spells s p0 p1 (6 : Int32) (97 : Int32) (99 : Int32) (116 : Int32) (105 : Int32) (111 : Int32) (110 : Int32)) = 0 then (fn10_kindOf_c72 s p0 p1 (0 : Int32)) else (fn10_kindOf_c67 s p0 p1)) else (fn10_kindOf_c67 s p0 p1)) else (fn10_kindOf_c67 s p0 p1)))
theorem fq10_kindOf (s : hs) (p0 : Int32) (p1 : Int32) : fn10_kindOf s p0 p1 = (if (fn10_spells s p0 p1 (4 : Int32) (104 : Int32) (114 : Int32) (101 : Int32) (102 : Int32) (102 : Int32) (102 : Int32)) = 0 then (if (fn10_spells s p0 p1 (3 : Int32) (115 : Int32) (114 : Int32) (99 : Int32) (99 : Int32) (99 : Int32) (99 : Int32)) = 0 then (if (fn10_spells s p0 p1 (6 : Int32) (97 : Int32) (99 : Int32) (116 : Int32) (105 : Int32) (111 : Int32) (110 : Int32)) = 0 then (fn10_kindOf_c72 s p0 p1 (0 : Int32)) else (fn10_kindOf_c67 s p0 p1)) else (fn10_kindOf_c67 s p0 p1)) else (fn10_kindOf_c67 s p0 p1)) := Classical.choose_spec (⟨_, rfl⟩ : ∃ z : Int32, z = (if (fn10_spells s p0 p1 (4 : Int32) (104 : Int32) (114 : Int32) (101 : Int32) (102 : Int32) (102 : Int32) (102 : Int32)) = 0 then (if (fn10_spells s p0 p1 (3 : Int32) (115 : Int32) (114 : Int32) (99 : Int32) (99 : Int32) (99 : Int32) (99 : Int32)) = 0 then (if (fn10_spells s p0 p1 (6 : Int32) (97 : Int32) (99 : Int32) (116 : Int32) (105 : Int32) (111 : Int32) (110 : Int32)) = 0 then (fn10_kindOf_c72 s p0 p1 (0 : Int32)) else (fn10_kindOf_c67 s p0 p1)) else (fn10_kindOf_c67 s p0 p1)) else (fn10_kindOf_c67 s p0 p1)))
def wp10_kindOf (s : hs) (p0 : Int32) (p1 : Int32) : Prop := ((wp10_spells s p0 p1 (4 : Int32) (104 : Int32) (114 : Int32) (101 : Int32) (102 : Int32) (102 : Int32) (102 : Int32)) ∧ (((fn10_spells s p0 p1 (4 : Int32) (104 : Int32) (114 : Int32) (101 : Int32) (102 : Int32) (102 : Int32) (102 : Int32)) = 0 → ((wp10_spells s p0 p1 (3 : Int32) (115 : Int32) (114 : Int32) (99 : Int32) (99 : Int32) (99 : Int32) (99 : Int32)) ∧ (((fn10_spells s p0 p1 (3 : Int32) (115 : Int32) (114 : Int32) (99 : Int32) (99 : Int32) (99 : Int32) (99 : Int32)) = 0 → ((wp10_spells s p0 p1 (6 : Int32) (97 : Int32) (99 : Int32) (116 : Int32) (105 : Int32) (111 : Int32) (110 : Int32)) ∧ (((fn10_spells s p0 p1 (6 : Int32) (97 : Int32) (99 : Int32) (116 : Int32) (105 : Int32) (111 : Int32) (110 : Int32)) = 0 → (wp10_kindOf_c72 s p0 p1 (0 : Int32))) ∧ (¬ (fn10_spells s p0 p1 (6 : Int32) (97 : Int32) (99 : Int32) (116 : Int32) (105 : Int32) (111 : Int32) (110 : Int32)) = 0 → (wp10_kindOf_c67 s p0 p1))))) ∧ (¬ (fn10_spells s p0 p1 (3 : Int32) (115 : Int32) (114 : Int32) (99 : Int32) (99 : Int32) (99 : Int32) (99 : Int32)) = 0 → (wp10_kindOf_c67 s p0 p1))))) ∧ (¬ (fn10_spells s p0 p1 (4 : Int32) (104 : Int32) (114 : Int32) (101 : Int32) (102 : Int32) (102 : Int32) (102 : Int32)) = 0 → (wp10_kindOf_c67 s p0 p1))))
set_option maxRecDepth 100000 in
set_option maxHeartbeats 4000000 in
theorem re10_kindOf (s : hs) (p0 : Int32) (p1 : Int32) (hp : wp10_kindOf s p0 p1) : am_lf (am_mk kb10_kindOf 0 0 22) [67, 72] (0, am_L0 [.inr (.inl 0), .inl p0, .inl p1] 4, [], (hm_w s), 0, 0) = some (some (.inl (fn10_kindOf s p0 p1)), (hm_w s)) := by
  unfold wp10_kindOf at hp
  have i67 := @rc10_kindOf_67
  have i72 := @rc10_kindOf_72
  refine am_lf_eq ?_
  generalize am_lf (am_mk kb10_kindOf 0 0 22) [67, 72] = kt at i67 i72 ⊢
  refine am_cx (pre := pr10_spells) (f := fm10_spells) (r := (some (.inl (fn10_spells s p0 p1 (4 : Int32) (104 : Int32) (114 : Int32) (101 : Int32) (102 : Int32) (102 : Int32) (102 : Int32))), (hm_w s), 0, 0)) ?_ ?_ ?_ ?_
  · exact ⟨s, p0, p1, (4 : Int32), (104 : Int32), (114 : Int32), (101 : Int32), (102 : Int32), (102 : Int32), (102 : Int32), rfl, rfl, hp.1⟩
  · exact fe10_spells s p0 p1 (4 : Int32) (104 : Int32) (114 : Int32) (101 : Int32) (102 : Int32) (102 : Int32) (102 : Int32)
  · exact rfl
  refine am_if (c := (fn10_spells s p0 p1 (4 : Int32) (104 : Int32) (114 : Int32) (101 : Int32) (102 : Int32) (102 : Int32) (102 : Int32)) = 0) (fun h1 => ?_) (fun h1 => ?_)
  · have q1 := hp.2.1 h1
    refine am_cx (pre := pr10_spells) (f := fm10_spells) (r := (some (.inl (fn10_spells s p0 p1 (3 : Int32) (115 : Int32) (114 : Int32) (99 : Int32) (99 : Int32) (99 : Int32) (99 : Int32))), (hm_w s), 0, 0)) ?_ ?_ ?_ ?_
    · exact ⟨s, p0, p1, (3 : Int32), (115 : Int32), (114 : Int32), (99 : Int32), (99 : Int32), (99 : Int32), (99 : Int32), rfl, rfl, q1.1⟩
    · exact fe10_spells s p0 p1 (3 : Int32) (115 : Int32) (114 : Int32) (99 : Int32) (99 : Int32) (99 : Int32) (99 : Int32)
    · exact rfl
    refine am_if (c := (fn10_spells s p0 p1 (3 : Int32) (115 : Int32) (114 : Int32) (99 : Int32) (99 : Int32) (99 : Int32) (99 : Int32)) = 0) (fun h2 => ?_) (fun h2 => ?_)
    · have q2 := q1.2.1 h2
      refine am_cx (pre := pr10_spells) (f := fm10_spells) (r := (some (.inl (fn10_spells s p0 p1 (6 : Int32) (97 : Int32) (99 : Int32) (116 : Int32) (105 : Int32) (111 : Int32) (110 : Int32))), (hm_w s), 0, 0)) ?_ ?_ ?_ ?_
      · exact ⟨s, p0, p1, (6 : Int32), (97 : Int32), (99 : Int32), (116 : Int32), (105 : Int32), (111 : Int32), (110 : Int32), rfl, rfl, q2.1⟩
      · exact fe10_spells s p0 p1 (6 : Int32) (97 : Int32) (99 : Int32) (116 : Int32) (105 : Int32) (111 : Int32) (110 : Int32)
      · exact rfl
      refine am_if (c := (fn10_spells s p0 p1 (6 : Int32) (97 : Int32) (99 : Int32) (116 : Int32) (105 : Int32) (111 : Int32) (110 : Int32)) = 0) (fun h3 => ?_) (fun h3 => ?_)
      · have q3 := q2.2.1 h3
        have e : fn10_kindOf s p0 p1 = fn10_kindOf_c72 s p0 p1 (0 : Int32) := by
          rw [fq10_kindOf]
          rw [if_pos h1, if_pos h2, if_pos h3]
        rw [e]
        exact i72 s p0 p1 (0 : Int32) _ rfl q3
      · have q3 := q2.2.2 h3
        have e : fn10_kindOf s p0 p1 = fn10_kindOf_c67 s p0 p1 := by
          rw [fq10_kindOf]
          rw [if_pos h1, if_pos h2, if_neg h3]
        rw [e]
        exact i67 s p0 p1 _ rfl q3
    · have q2 := q1.2.2 h2
      have e : fn10_kindOf s p0 p1 = fn10_kindOf_c67 s p0 p1 := by
        rw [fq10_kindOf]
        rw [if_pos h1, if_neg h2]
      rw [e]
      exact i67 s p0 p1 _ rfl q2
  · have q1 := hp.2.2 h1
    have e : fn10_kindOf s p0 p1 = fn10_kindOf_c67 s p0 p1 := by
      rw [fq10_kindOf]
      rw [if_neg h1]
    rw [e]
    exact i67 s p0 p1 _ rfl q1
abbrev pr10_kindOf : List am_V → List am_C → Prop := fun a w => ∃ (s : hs) (p0 : Int32) (p1 : Int32), a = [.inr (.inl 0), .inl p0, .inl p1] ∧ w = (hm_w s) ∧ wp10_kindOf s p0 p1
noncomputable def fm10_kindOf : am_M := fun a w => (fun (z : Int32) => (some (.inl z), (hm_w (hm_st w 0)), 0, 0)) (fn10_kindOf (hm_st w 0) (am_i (am_an a 1)) (am_i (am_an a 2)))
theorem fe10_kindOf (s : hs) (p0 : Int32) (p1 : Int32) : fm10_kindOf [.inr (.inl 0), .inl p0, .inl p1] (hm_w s) = (some (.inl (fn10_kindOf s p0 p1)), (hm_w s), 0, 0) := rfl
set_option maxRecDepth 100000 in
set_option maxHeartbeats 4000000 in
theorem rn10_kindOf : ∀ (a : List am_V) (w : List am_C), pr10_kindOf a w → ∃ nq, am_ev (am_mk kb10_kindOf (fm10_kindOf a w).2.2.1 (fm10_kindOf a w).2.2.2 w.length) [67, 72] nq (0, am_L0 a 4, [], w, 0, 0) = some ((fm10_kindOf a w).1, (fm10_kindOf a w).2.1) := by
  rintro a w ⟨s, p0, p1, rfl, rfl, hp⟩
  rw [fe10_kindOf s p0 p1]
  exact am_lf_ev (re10_kindOf s p0 p1 hp)
theorem rl10_kindOf : ∀ (a : List am_V) (w : List am_C), pr10_kindOf a w → a.length ≤ 4 := by
  rintro a w ⟨s, p0, p1, rfl, rfl, hp⟩
  exact Nat.le_of_ble_eq_true rfl
theorem pa10_kindOf : ∀ a w, pr10_kindOf a w → ∃ q a' ci fs r, a = .inr (.inl q) :: a' ∧ w[q]? = some (.inr (ci, fs)) ∧ hn_cl[ci]? = some r ∧ r.1 = hn_R10 := by
  rintro a w ⟨s, p0, p1, rfl, rfl, hp⟩
  exact ⟨0, _, 10, _, _, rfl, rfl, rfl, rfl⟩
set_option maxRecDepth 100000 in
set_option maxHeartbeats 4000000 in
theorem km10_kindOf {l : Launch} {E : (Nat → Prop) → State → Prop} {D : va_G} {ou : Nat → Nat} {ca : Nat → ClassId} (hE : am_EC E) : hg_Met l E D ou ca hy10_kindOf prog_12_method_26_code 4 (some .int) 3 pr10_kindOf fm10_kindOf := by
  refine am_met (B := kb10_kindOf) (cuts := [67, 72]) (nt := 5) (by decide +kernel) rfl rfl (hg_tys_ok ca) ?_ (by decide) rl10_kindOf ?_ rn10_kindOf
  · exact fun t ht => List.mem_cons_of_mem _ (hg_arr t ht)
  · intro a w hp ad p e R s m args below meth c hR X hEs hnm
    have hR1 : 3 ≤ R.frames ∧ 120 ≤ R.locals := by rw [hR]; exact ⟨Nat.le_refl _, Nat.le_refl _⟩
    refine ⟨kd10_kindOf_ok, fun index ci fi mode hq => kf10_ok X.2.2.2.2.1 (index, ci, fi, mode) (am_as_mem hq), fun index ci fs hq => (am_no hq).elim, fun x v hq => (am_no hq).elim, ?_, fun o t n f hq => (am_no hq).elim, rfl, rfl, by rw [hR]; exact Nat.le_refl _, by rw [hR]; exact Nat.le_refl _⟩
    intro pc sel n0 pre0 f0 hq
    have hz : ∀ q ∈ ki10_kindOf, am_CK p l e R s m args below meth c D hn_cl (va_A (am_w ad ou ca w) s.heap.size) ou ca 4 q.1 q.2.2.1 q.2.2.2.1 q.2.2.2.2 := by
      refine am_allc (am_ck_V (n := 9) X hEs hE (km10_spells hE) (hg_good (gw_mem 1176 (by decide +kernel))) rfl (List.mem_cons_of_mem _ (gw_mem 76 (by decide +kernel))) (List.mem_cons_of_mem _ (gw_mem 1173 (by decide +kernel))) (List.mem_cons_of_mem _ (gw_mem 1175 (by decide +kernel))) (List.mem_cons_of_mem _ (gw_mem 26 (by decide +kernel))) pa10_spells (by decide +kernel) ⟨Nat.le_trans (by decide) hR1.1, Nat.le_trans (by decide) hR1.2⟩ (kd10_kindOf_ok (16, .invokevirtual 120, 3) (List.mem_of_getElem? (i := 10) rfl))) (am_allc (am_ck_V (n := 9) X hEs hE (km10_spells hE) (hg_good (gw_mem 1176 (by decide +kernel))) rfl (List.mem_cons_of_mem _ (gw_mem 76 (by decide +kernel))) (List.mem_cons_of_mem _ (gw_mem 1173 (by decide +kernel))) (List.mem_cons_of_mem _ (gw_mem 1175 (by decide +kernel))) (List.mem_cons_of_mem _ (gw_mem 26 (by decide +kernel))) pa10_spells (by decide +kernel) ⟨Nat.le_trans (by decide) hR1.1, Nat.le_trans (by decide) hR1.2⟩ (kd10_kindOf_ok (38, .invokevirtual 120, 3) (List.mem_of_getElem? (i := 22) rfl))) (am_allc (am_ck_V (n := 9) X hEs hE (km10_spells hE) (hg_good (gw_mem 1176 (by decide +kernel))) rfl (List.mem_cons_of_mem _ (gw_mem 76 (by decide +kernel))) (List.mem_cons_of_mem _ (gw_mem 1173 (by decide +kernel))) (List.mem_cons_of_mem _ (gw_mem 1175 (by decide +kernel))) (List.mem_cons_of_mem _ (gw_mem 26 (by decide +kernel))) pa10_spells (by decide +kernel) ⟨Nat.le_trans (by decide) hR1.1, Nat.le_trans (by decide) hR1.2⟩ (kd10_kindOf_ok (61, .invokevirtual 120, 3) (List.mem_of_getElem? (i := 34) rfl))) (am_allc (am_ck_V (n := 2) X hEs hE (km10_isStyle hE) (hg_good (gw_mem 1180 (by decide +kernel))) rfl (List.mem_cons_of_mem _ (gw_mem 76 (by decide +kernel))) (List.mem_cons_of_mem _ (gw_mem 1177 (by decide +kernel))) (List.mem_cons_of_mem _ (gw_mem 1179 (by decide +kernel))) (List.mem_cons_of_mem _ (gw_mem 27 (by decide +kernel))) pa10_isStyle (by decide +kernel) ⟨Nat.le_trans (by decide) hR1.1, Nat.le_trans (by decide) hR1.2⟩ (kd10_kindOf_ok (84, .invokevirtual 162, 3) (List.mem_of_getElem? (i := 47) rfl))) (am_allc (am_ck_V (n := 1) X hEs hE (km10_ch hE) (hg_good (gw_mem 1147 (by decide +kernel))) rfl (List.mem_cons_of_mem _ (gw_mem 76 (by decide +kernel))) (List.mem_cons_of_mem _ (gw_mem 1144 (by decide +kernel))) (List.mem_cons_of_mem _ (gw_mem 1146 (by decide +kernel))) (List.mem_cons_of_mem _ (gw_mem 21 (by decide +kernel))) pa10_ch (by decide +kernel) ⟨Nat.le_trans (by decide) hR1.1, Nat.le_trans (by decide) hR1.2⟩ (kd10_kindOf_ok (101, .invokevirtual 114, 3) (List.mem_of_getElem? (i := 56) rfl))) (am_allc (am_ck_V (n := 1) X hEs hE (km10_ch hE) (hg_good (gw_mem 1147 (by decide +kernel))) rfl (List.mem_cons_of_mem _ (gw_mem 76 (by decide +kernel))) (List.mem_cons_of_mem _ (gw_mem 1144 (by decide +kernel))) (List.mem_cons_of_mem _ (gw_mem 1146 (by decide +kernel))) (List.mem_cons_of_mem _ (gw_mem 21 (by decide +kernel))) pa10_ch (by decide +kernel) ⟨Nat.le_trans (by decide) hR1.1, Nat.le_trans (by decide) hR1.2⟩ (kd10_kindOf_ok (113, .invokevirtual 114, 3) (List.mem_of_getElem? (i := 63) rfl))) (am_all0))))))
    exact hz _ (am_as_mem hq)
