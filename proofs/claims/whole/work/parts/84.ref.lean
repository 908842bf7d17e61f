noncomputable def ki10_attribute : List (Nat × Option (List Nat) × Nat × (List am_V → List am_C → Prop) × am_M) := [(6, none, 2, pr10_ch, fm10_ch), (9, some [], 1, pr10_isLetter, fm10_isLetter), (23, none, 2, pr10_ch, fm10_ch), (41, none, 2, pr10_blanksFrom, fm10_blanksFrom), (55, none, 2, pr10_ch, fm10_ch), (70, none, 2, pr10_ch, fm10_ch), (81, none, 2, pr10_ch, fm10_ch), (107, none, 2, pr10_blanksFrom, fm10_blanksFrom), (116, none, 2, pr10_ch, fm10_ch), (127, none, 2, pr10_ch, fm10_ch), (146, none, 3, pr10_kindOf, fm10_kindOf), (156, none, 2, pr10_ch, fm10_ch)]
noncomputable def kb10_attribute : am_B := (kd10_attribute, am_as kf10, hn_ty, fun _ => none, fun _ => none, am_as ki10_attribute, fun _ => none, 5, 5, (some .int))
noncomputable def fn10_attribute_c89 (s : hs) (v1 : Int32) (v4 : Int32) : Int32 × hs := ((v4 - v1), s)
def wp10_attribute_c89 (s : hs) (v1 : Int32) (v4 : Int32) : Prop := True
set_option maxRecDepth 100000 in
set_option maxHeartbeats 4000000 in
theorem rc10_attribute_89 (s : hs) (v1 : Int32) (v4 : Int32) (j2 : Option am_V) (j3 : Option am_V) (g2 : am_loO 22 j2 = true) (g3 : am_loO 22 j3 = true) (hp : wp10_attribute_c89 s v1 v4) : am_lf (am_mk kb10_attribute 0 0 22) [2, 37, 89, 137, 142, 152, 162] (89, [some (.inr (.inl 0)), some (.inl v1), j2, j3, some (.inl v4)], [], (hm_w s), 0, 0) = some (some (.inl ((fn10_attribute_c89 s v1 v4).1)), (hm_w ((fn10_attribute_c89 s v1 v4).2))) := by
  unfold wp10_attribute_c89 at hp
  refine am_lf_eq ?_
  generalize am_lf (am_mk kb10_attribute 0 0 22) [2, 37, 89, 137, 142, 152, 162] = kt
  have e : fn10_attribute_c89 s v1 v4 = ((v4 - v1), s) := by
    rw [fn10_attribute_c89]
  rw [e] <;> rfl
noncomputable def fn10_attribute_c162 (s : hs) (v1 : Int32) (v4 : Int32) : Int32 × hs := (((v4 + (1 : Int32)) - v1), (hu_part s (0 : Int32)))
def wp10_attribute_c162 (s : hs) (v1 : Int32) (v4 : Int32) : Prop := True
set_option maxRecDepth 100000 in
set_option maxHeartbeats 4000000 in
theorem rc10_attribute_162 (s : hs) (v1 : Int32) (v4 : Int32) (j2 : Option am_V) (j3 : Option am_V) (g2 : am_loO 22 j2 = true) (g3 : am_loO 22 j3 = true) (hp : wp10_attribute_c162 s v1 v4) : am_lf (am_mk kb10_attribute 0 0 22) [2, 37, 89, 137, 142, 152, 162] (162, [some (.inr (.inl 0)), some (.inl v1), j2, j3, some (.inl v4)], [], (hm_w s), 0, 0) = some (some (.inl ((fn10_attribute_c162 s v1 v4).1)), (hm_w ((fn10_attribute_c162 s v1 v4).2))) := by
  unfold wp10_attribute_c162 at hp
  refine am_lf_eq ?_
  generalize am_lf (am_mk kb10_attribute 0 0 22) [2, 37, 89, 137, 142, 152, 162] = kt
  refine am_sp (w' := (hm_w (hu_part s (0 : Int32)))) (kp_R_0_part s (0 : Int32)) ?_
  have e : fn10_attribute_c162 s v1 v4 = (((v4 + (1 : Int32)) - v1), (hu_part s (0 : Int32))) := by
    rw [fn10_attribute_c162]
  rw [e] <;> rfl
noncomputable def fn10_attribute_c152 (s : hs) (v1 : Int32) (v4 : Int32) : Int32 × hs := (fn10_attribute_c162 (hu_quote s (fn10_ch s v4)) v1 v4)
def wp10_attribute_c152 (s : hs) (v1 : Int32) (v4 : Int32) : Prop := ((wp10_ch s v4) ∧ (am_fit .char (.inl (fn10_ch s v4)) = true ∧ (wp10_attribute_c162 (hu_quote s (fn10_ch s v4)) v1 v4)))
set_option maxRecDepth 100000 in
set_option maxHeartbeats 4000000 in
theorem rc10_attribute_152 (s : hs) (v1 : Int32) (v4 : Int32) (j2 : Option am_V) (j3 : Option am_V) (g2 : am_loO 22 j2 = true) (g3 : am_loO 22 j3 = true) (hp : wp10_attribute_c152 s v1 v4) : am_lf (am_mk kb10_attribute 0 0 22) [2, 37, 89, 137, 142, 152, 162] (152, [some (.inr (.inl 0)), some (.inl v1), j2, j3, some (.inl v4)], [], (hm_w s), 0, 0) = some (some (.inl ((fn10_attribute_c152 s v1 v4).1)), (hm_w ((fn10_attribute_c152 s v1 v4).2))) := by
  unfold wp10_attribute_c152 at hp
  have i162 := @rc10_attribute_162
  refine am_lf_eq ?_
  generalize am_lf (am_mk kb10_attribute 0 0 22) [2, 37, 89, 137, 142, 152, 162] = kt at i162 ⊢
  refine am_cx (pre := pr10_ch) (f := fm10_ch) (r := (some (.inl (fn10_ch s v4)), (hm_w s), 0, 0)) ?_ ?_ ?_ ?_
  · exact ⟨s, v4, rfl, rfl, hp.1⟩
  · exact fe10_ch s v4
  · exact (am_ac rfl (am_ac rfl (am_ac g2 (am_ac g3 (am_ac rfl am_a0)))))
  refine am_ci (c := am_fit .char (.inl (fn10_ch s v4)) = true) hp.2.1 ?_
  refine am_sp (w' := (hm_w (hu_quote s (fn10_ch s v4)))) (kp_R_0_quote s (fn10_ch s v4)) ?_
  have e : fn10_attribute_c152 s v1 v4 = fn10_attribute_c162 (hu_quote s (fn10_ch s v4)) v1 v4 := by
    rw [fn10_attribute_c152]
  rw [e]
  exact i162 (hu_quote s (fn10_ch s v4)) v1 v4 _ _ g2 g3 hp.2.2
noncomputable def fn10_attribute_c142 (s : hs) (v1 : Int32) (v2 : Int32) (v4 : Int32) : Int32 × hs := (fn10_attribute_c152 (hu_kind s (fn10_kindOf s v1 v2)) v1 v4)
def wp10_attribute_c142 (s : hs) (v1 : Int32) (v2 : Int32) (v4 : Int32) : Prop := ((wp10_kindOf s v1 v2) ∧ (wp10_attribute_c152 (hu_kind s (fn10_kindOf s v1 v2)) v1 v4))
set_option maxRecDepth 100000 in
set_option maxHeartbeats 4000000 in
theorem rc10_attribute_142 (s : hs) (v1 : Int32) (v2 : Int32) (v4 : Int32) (j3 : Option am_V) (g3 : am_loO 22 j3 = true) (hp : wp10_attribute_c142 s v1 v2 v4) : am_lf (am_mk kb10_attribute 0 0 22) [2, 37, 89, 137, 142, 152, 162] (142, [some (.inr (.inl 0)), some (.inl v1), some (.inl v2), j3, some (.inl v4)], [], (hm_w s), 0, 0) = some (some (.inl ((fn10_attribute_c142 s v1 v2 v4).1)), (hm_w ((fn10_attribute_c142 s v1 v2 v4).2))) := by
  unfold wp10_attribute_c142 at hp
  have i152 := @rc10_attribute_152
  refine am_lf_eq ?_
  generalize am_lf (am_mk kb10_attribute 0 0 22) [2, 37, 89, 137, 142, 152, 162] = kt at i152 ⊢
  refine am_cx (pre := pr10_kindOf) (f := fm10_kindOf) (r := (some (.inl (fn10_kindOf s v1 v2)), (hm_w s), 0, 0)) ?_ ?_ ?_ ?_
  · exact ⟨s, v1, v2, rfl, rfl, hp.1⟩
  · exact fe10_kindOf s v1 v2
  · exact (am_ac rfl (am_ac rfl (am_ac rfl (am_ac g3 (am_ac rfl am_a0)))))
  refine am_sp (w' := (hm_w (hu_kind s (fn10_kindOf s v1 v2)))) (kp_R_0_kind s (fn10_kindOf s v1 v2)) ?_
  have e : fn10_attribute_c142 s v1 v2 v4 = fn10_attribute_c152 (hu_kind s (fn10_kindOf s v1 v2)) v1 v4 := by
    rw [fn10_attribute_c142]
  rw [e]
  exact i152 (hu_kind s (fn10_kindOf s v1 v2)) v1 v4 _ _ rfl g3 hp.2
noncomputable def fn10_attribute_c137 (s : hs) (v1 : Int32) (v2 : Int32) (v4 : Int32) : Int32 × hs := (fn10_attribute_c142 (hu_context s (2 : Int32)) v1 v2 v4)
def wp10_attribute_c137 (s : hs) (v1 : Int32) (v2 : Int32) (v4 : Int32) : Prop := (wp10_attribute_c142 (hu_context s (2 : Int32)) v1 v2 v4)
set_option maxRecDepth 100000 in
set_option maxHeartbeats 4000000 in
theorem rc10_attribute_137 (s : hs) (v1 : Int32) (v2 : Int32) (v4 : Int32) (j3 : Option am_V) (g3 : am_loO 22 j3 = true) (hp : wp10_attribute_c137 s v1 v2 v4) : am_lf (am_mk kb10_attribute 0 0 22) [2, 37, 89, 137, 142, 152, 162] (137, [some (.inr (.inl 0)), some (.inl v1), some (.inl v2), j3, some (.inl v4)], [], (hm_w s), 0, 0) = some (some (.inl ((fn10_attribute_c137 s v1 v2 v4).1)), (hm_w ((fn10_attribute_c137 s v1 v2 v4).2))) := by
  unfold wp10_attribute_c137 at hp
  have i142 := @rc10_attribute_142
  refine am_lf_eq ?_
  generalize am_lf (am_mk kb10_attribute 0 0 22) [2, 37, 89, 137, 142, 152, 162] = kt at i142 ⊢
  refine am_sp (w' := (hm_w (hu_context s (2 : Int32)))) (kp_R_0_context s (2 : Int32)) ?_
  have e : fn10_attribute_c137 s v1 v2 v4 = fn10_attribute_c142 (hu_context s (2 : Int32)) v1 v2 v4 := by
    rw [fn10_attribute_c137]
  rw [e]
  exact i142 (hu_context s (2 : Int32)) v1 v2 v4 _ g3 hp
noncomputable def fn10_attribute_c37 (s : hs) (v1 : Int32) (v2 : Int32) : Int32 × hs := (if (fn10_ch s ((v1 + v2) + (fn10_blanksFrom s (v1 + v2)))) = (61 : Int32) then (if (fn10_ch s ((((v1 + v2) + (fn10_blanksFrom s (v1 + v2))) + (1 : Int32)) + (fn10_blanksFrom s (((v1 + v2) + (fn10_blanksFrom s (v1 + v2))) + (1 : Int32))))) = (34 : Int32) then (fn10_attribute_c137 s v1 v2 ((((v1 + v2) + (fn10_blanksFrom s (v1 + v2))) + (1 : Int32)) + (fn10_blanksFrom s (((v1 + v2) + (fn10_blanksFrom s (v1 + v2))) + (1 : Int32))))) else (if (fn10_ch s ((((v1 + v2) + (fn10_blanksFrom s (v1 + v2))) + (1 : Int32)) + (fn10_blanksFrom s (((v1 + v2) + (fn10_blanksFrom s (v1 + v2))) + (1 : Int32))))) = (39 : Int32) then (fn10_attribute_c137 s v1 v2 ((((v1 + v2) + (fn10_blanksFrom s (v1 + v2))) + (1 : Int32)) + (fn10_blanksFrom s (((v1 + v2) + (fn10_blanksFrom s (v1 + v2))) + (1 : Int32))))) else ((0 : Int32), s))) else (if 0 < (fn10_blanksFrom s (v1 + v2)) then (fn10_attribute_c89 s v1 ((v1 + v2) + (fn10_blanksFrom s (v1 + v2)))) else (if (fn10_ch s ((v1 + v2) + (fn10_blanksFrom s (v1 + v2)))) = (47 : Int32) then (fn10_attribute_c89 s v1 ((v1 + v2) + (fn10_blanksFrom s (v1 + v2)))) else (if (fn10_ch s ((v1 + v2) + (fn10_blanksFrom s (v1 + v2)))) = (62 : Int32) then (fn10_attribute_c89 s v1 ((v1 + v2) + (fn10_blanksFrom s (v1 + v2)))) else ((0 : Int32), s)))))
def wp10_attribute_c37 (s : hs) (v1 : Int32) (v2 : Int32) : Prop := ((wp10_blanksFrom s (v1 + v2)) ∧ ((wp10_ch s ((v1 + v2) + (fn10_blanksFrom s (v1 + v2)))) ∧ (((fn10_ch s ((v1 + v2) + (fn10_blanksFrom s (v1 + v2)))) = (61 : Int32) → ((wp10_blanksFrom s (((v1 + v2) + (fn10_blanksFrom s (v1 + v2))) + (1 : Int32))) ∧ ((wp10_ch s ((((v1 + v2) + (fn10_blanksFrom s (v1 + v2))) + (1 : Int32)) + (fn10_blanksFrom s (((v1 + v2) + (fn10_blanksFrom s (v1 + v2))) + (1 : Int32))))) ∧ (((fn10_ch s ((((v1 + v2) + (fn10_blanksFrom s (v1 + v2))) + (1 : Int32)) + (fn10_blanksFrom s (((v1 + v2) + (fn10_blanksFrom s (v1 + v2))) + (1 : Int32))))) = (34 : Int32) → (wp10_attribute_c137 s v1 v2 ((((v1 + v2) + (fn10_blanksFrom s (v1 + v2))) + (1 : Int32)) + (fn10_blanksFrom s (((v1 + v2) + (fn10_blanksFrom s (v1 + v2))) + (1 : Int32)))))) ∧ (¬ (fn10_ch s ((((v1 + v2) + (fn10_blanksFrom s (v1 + v2))) + (1 : Int32)) + (fn10_blanksFrom s (((v1 + v2) + (fn10_blanksFrom s (v1 + v2))) + (1 : Int32))))) = (34 : Int32) → ((wp10_ch s ((((v1 + v2) + (fn10_blanksFrom s (v1 + v2))) + (1 : Int32)) + (fn10_blanksFrom s (((v1 + v2) + (fn10_blanksFrom s (v1 + v2))) + (1 : Int32))))) ∧ (((fn10_ch s ((((v1 + v2) + (fn10_blanksFrom s (v1 + v2))) + (1 : Int32)) + (fn10_blanksFrom s (((v1 + v2) + (fn10_blanksFrom s (v1 + v2))) + (1 : Int32))))) = (39 : Int32) → (wp10_attribute_c137 s v1 v2 ((((v1 + v2) + (fn10_blanksFrom s (v1 + v2))) + (1 : Int32)) + (fn10_blanksFrom s (((v1 + v2) + (fn10_blanksFrom s (v1 + v2))) + (1 : Int32)))))) ∧ (¬ (fn10_ch s ((((v1 + v2) + (fn10_blanksFrom s (v1 + v2))) + (1 : Int32)) + (fn10_blanksFrom s (((v1 + v2) + (fn10_blanksFrom s (v1 + v2))) + (1 : Int32))))) = (39 : Int32) → True)))))))) ∧ (¬ (fn10_ch s ((v1 + v2) + (fn10_blanksFrom s (v1 + v2)))) = (61 : Int32) → ((0 < (fn10_blanksFrom s (v1 + v2)) → (wp10_attribute_c89 s v1 ((v1 + v2) + (fn10_blanksFrom s (v1 + v2))))) ∧ (¬ 0 < (fn10_blanksFrom s (v1 + v2)) → ((wp10_ch s ((v1 + v2) + (fn10_blanksFrom s (v1 + v2)))) ∧ (((fn10_ch s ((v1 + v2) + (fn10_blanksFrom s (v1 + v2)))) = (47 : Int32) → (wp10_attribute_c89 s v1 ((v1 + v2) + (fn10_blanksFrom s (v1 + v2))))) ∧ (¬ (fn10_ch s ((v1 + v2) + (fn10_blanksFrom s (v1 + v2)))) = (47 : Int32) → ((wp10_ch s ((v1 + v2) + (fn10_blanksFrom s (v1 + v2)))) ∧ (((fn10_ch s ((v1 + v2) + (fn10_blanksFrom s (v1 + v2)))) = (62 : Int32) → (wp10_attribute_c89 s v1 ((v1 + v2) + (fn10_blanksFrom s (v1 + v2))))) ∧ (¬ (fn10_ch s ((v1 + v2) + (fn10_blanksFrom s (v1 + v2)))) = (62 : Int32) → True))))))))))))
set_option maxRecDepth 100000 in
set_option maxHeartbeats 4000000 in
theorem rc10_attribute_37 (s : hs) (v1 : Int32) (v2 : Int32) (j3 : Option am_V) (j4 : Option am_V) (g3 : am_loO 22 j3 = true) (g4 : am_loO 22 j4 = true) (hp : wp10_attribute_c37 s v1 v2) : am_lf (am_mk kb10_attribute 0 0 22) [2, 37, 89, 137, 142, 152, 162] (37, [some (.inr (.inl 0)), some (.inl v1), some (.inl v2), j3, j4], [], (hm_w s), 0, 0) = some (some (.inl ((fn10_attribute_c37 s v1 v2).1)), (hm_w ((fn10_attribute_c37 s v1 v2).2))) := by
  unfold wp10_attribute_c37 at hp
  have i89 := @rc10_attribute_89
  have i137 := @rc10_attribute_137
  refine am_lf_eq ?_
  generalize am_lf (am_mk kb10_attribute 0 0 22) [2, 37, 89, 137, 142, 152, 162] = kt at i89 i137 ⊢
  refine am_cx (pre := pr10_blanksFrom) (f := fm10_blanksFrom) (r := (some (.inl (fn10_blanksFrom s (v1 + v2))), (hm_w s), 0, 0)) ?_ ?_ ?_ ?_
  · exact ⟨s, (v1 + v2), rfl, rfl, hp.1⟩
  · exact fe10_blanksFrom s (v1 + v2)
  · exact (am_ac rfl (am_ac rfl (am_ac rfl (am_ac g3 (am_ac g4 am_a0)))))
  refine am_cx (pre := pr10_ch) (f := fm10_ch) (r := (some (.inl (fn10_ch s ((v1 + v2) + (fn10_blanksFrom s (v1 + v2))))), (hm_w s), 0, 0)) ?_ ?_ ?_ ?_
  · exact ⟨s, ((v1 + v2) + (fn10_blanksFrom s (v1 + v2))), rfl, rfl, hp.2.1⟩
  · exact fe10_ch s ((v1 + v2) + (fn10_blanksFrom s (v1 + v2)))
  · exact rfl
  refine am_if (c := (fn10_ch s ((v1 + v2) + (fn10_blanksFrom s (v1 + v2)))) = (61 : Int32)) (fun h1 => ?_) (fun h1 => ?_)
  · have q1 := hp.2.2.1 h1
    refine am_cx (pre := pr10_blanksFrom) (f := fm10_blanksFrom) (r := (some (.inl (fn10_blanksFrom s (((v1 + v2) + (fn10_blanksFrom s (v1 + v2))) + (1 : Int32)))), (hm_w s), 0, 0)) ?_ ?_ ?_ ?_
    · exact ⟨s, (((v1 + v2) + (fn10_blanksFrom s (v1 + v2))) + (1 : Int32)), rfl, rfl, q1.1⟩
    · exact fe10_blanksFrom s (((v1 + v2) + (fn10_blanksFrom s (v1 + v2))) + (1 : Int32))
    · exact rfl
    refine am_cx (pre := pr10_ch) (f := fm10_ch) (r := (some (.inl (fn10_ch s ((((v1 + v2) + (fn10_blanksFrom s (v1 + v2))) + (1 : Int32)) + (fn10_blanksFrom s (((v1 + v2) + (fn10_blanksFrom s (v1 + v2))) + (1 : Int32)))))), (hm_w s), 0, 0)) ?_ ?_ ?_ ?_
    · exact ⟨s, ((((v1 + v2) + (fn10_blanksFrom s (v1 + v2))) + (1 : Int32)) + (fn10_blanksFrom s (((v1 + v2) + (fn10_blanksFrom s (v1 + v2))) + (1 : Int32)))), rfl, rfl, q1.2.1⟩
    · exact fe10_ch s ((((v1 + v2) + (fn10_blanksFrom s (v1 + v2))) + (1 : Int32)) + (fn10_blanksFrom s (((v1 + v2) + (fn10_blanksFrom s (v1 + v2))) + (1 : Int32))))
    · exact rfl
    refine am_if (c := (fn10_ch s ((((v1 + v2) + (fn10_blanksFrom s (v1 + v2))) + (1 : Int32)) + (fn10_blanksFrom s (((v1 + v2) + (fn10_blanksFrom s (v1 + v2))) + (1 : Int32))))) = (34 : Int32)) (fun h2 => ?_) (fun h2 => ?_)
    · have q2 := q1.2.2.1 h2
      have e : fn10_attribute_c37 s v1 v2 = fn10_attribute_c137 s v1 v2 ((((v1 + v2) + (fn10_blanksFrom s (v1 + v2))) + (1 : Int32)) + (fn10_blanksFrom s (((v1 + v2) + (fn10_blanksFrom s (v1 + v2))) + (1 : Int32)))) := by
        rw [fn10_attribute_c37]
        rw [if_pos h1, if_pos h2]
      rw [e]
      exact i137 s v1 v2 ((((v1 + v2) + (fn10_blanksFrom s (v1 + v2))) + (1 : Int32)) + (fn10_blanksFrom s (((v1 + v2) + (fn10_blanksFrom s (v1 + v2))) + (1 : Int32)))) _ rfl q2
    · have q2 := q1.2.2.2 h2
      refine am_cx (pre := pr10_ch) (f := fm10_ch) (r := (some (.inl (fn10_ch s ((((v1 + v2) + (fn10_blanksFrom s (v1 + v2))) + (1 : Int32)) + (fn10_blanksFrom s (((v1 + v2) + (fn10_blanksFrom s (v1 + v2))) + (1 : Int32)))))), (hm_w s), 0, 0)) ?_ ?_ ?_ ?_
      · exact ⟨s, ((((v1 + v2) + (fn10_blanksFrom s (v1 + v2))) + (1 : Int32)) + (fn10_blanksFrom s (((v1 + v2) + (fn10_blanksFrom s (v1 + v2))) + (1 : Int32)))), rfl, rfl, q2.1⟩
      · exact fe10_ch s ((((v1 + v2) + (fn10_blanksFrom s (v1 + v2))) + (1 : Int32)) + (fn10_blanksFrom s (((v1 + v2) + (fn10_blanksFrom s (v1 + v2))) + (1 : Int32))))
      · exact rfl
      refine am_if (c := (fn10_ch s ((((v1 + v2) + (fn10_blanksFrom s (v1 + v2))) + (1 : Int32)) + (fn10_blanksFrom s (((v1 + v2) + (fn10_blanksFrom s (v1 + v2))) + (1 : Int32))))) = (39 : Int32)) (fun h3 => ?_) (fun h3 => ?_)
      · have q3 := q2.2.1 h3
        have e : fn10_attribute_c37 s v1 v2 = fn10_attribute_c137 s v1 v2 ((((v1 + v2) + (fn10_blanksFrom s (v1 + v2))) + (1 : Int32)) + (fn10_blanksFrom s (((v1 + v2) + (fn10_blanksFrom s (v1 + v2))) + (1 : Int32)))) := by
          rw [fn10_attribute_c37]
          rw [if_pos h1, if_neg h2, if_pos h3]
        rw [e]
        exact i137 s v1 v2 ((((v1 + v2) + (fn10_blanksFrom s (v1 + v2))) + (1 : Int32)) + (fn10_blanksFrom s (((v1 + v2) + (fn10_blanksFrom s (v1 + v2))) + (1 : Int32)))) _ rfl q3
      · have e : fn10_attribute_c37 s v1 v2 = ((0 : Int32), s) := by
          rw [fn10_attribute_c37]
          rw [if_pos h1, if_neg h2, if_neg h3]
        rw [e] <;> rfl
  · have q1 := hp.2.2.2 h1
    refine am_if (c := 0 < (fn10_blanksFrom s (v1 + v2))) (fun h2 => ?_) (fun h2 => ?_)
    · have q2 := q1.1 h2
      have e : fn10_attribute_c37 s v1 v2 = fn10_attribute_c89 s v1 ((v1 + v2) + (fn10_blanksFrom s (v1 + v2))) := by
        rw [fn10_attribute_c37]
        rw [if_neg h1, if_pos h2]
      rw [e]
      exact i89 s v1 ((v1 + v2) + (fn10_blanksFrom s (v1 + v2))) _ _ rfl rfl q2
    · have q2 := q1.2 h2
      refine am_cx (pre := pr10_ch) (f := fm10_ch) (r := (some (.inl (fn10_ch s ((v1 + v2) + (fn10_blanksFrom s (v1 + v2))))), (hm_w s), 0, 0)) ?_ ?_ ?_ ?_
      · exact ⟨s, ((v1 + v2) + (fn10_blanksFrom s (v1 + v2))), rfl, rfl, q2.1⟩
      · exact fe10_ch s ((v1 + v2) + (fn10_blanksFrom s (v1 + v2)))
      · exact rfl
      refine am_if (c := (fn10_ch s ((v1 + v2) + (fn10_blanksFrom s (v1 + v2)))) = (47 : Int32)) (fun h3 => ?_) (fun h3 => ?_)
      · have q3 := q2.2.1 h3
        have e : fn10_attribute_c37 s v1 v2 = fn10_attribute_c89 s v1 ((v1 + v2) + (fn10_blanksFrom s (v1 + v2))) := by
          rw [fn10_attribute_c37]
          rw [if_neg h1, if_neg h2, if_pos h3]
        rw [e]
        exact i89 s v1 ((v1 + v2) + (fn10_blanksFrom s (v1 + v2))) _ _ rfl rfl q3
      · have q3 := q2.2.2 h3
        refine am_cx (pre := pr10_ch) (f := fm10_ch) (r := (some (.inl (fn10_ch s ((v1 + v2) + (fn10_blanksFrom s (v1 + v2))))), (hm_w s), 0, 0)) ?_ ?_ ?_ ?_
        · exact ⟨s, ((v1 + v2) + (fn10_blanksFrom s (v1 + v2))), rfl, rfl, q3.1⟩
        · exact fe10_ch s ((v1 + v2) + (fn10_blanksFrom s (v1 + v2)))
        · exact rfl
        refine am_if (c := (fn10_ch s ((v1 + v2) + (fn10_blanksFrom s (v1 + v2)))) = (62 : Int32)) (fun h4 => ?_) (fun h4 => ?_)
        · have q4 := q3.2.1 h4
          have e : fn10_attribute_c37 s v1 v2 = fn10_attribute_c89 s v1 ((v1 + v2) + (fn10_blanksFrom s (v1 + v2))) := by
            rw [fn10_attribute_c37]
            rw [if_neg h1, if_neg h2, if_neg h3, if_pos h4]
          rw [e]
          exact i89 s v1 ((v1 + v2) + (fn10_blanksFrom s (v1 + v2))) _ _ rfl rfl q4
        · have e : fn10_attribute_c37 s v1 v2 = ((0 : Int32), s) := by
            rw [fn10_attribute_c37]
            rw [if_neg h1, if_neg h2, if_neg h3, if_neg h4]
          rw [e] <;> rfl
noncomputable def fn10_attribute_c2 : Nat → hs → Int32 → Int32 → Int32 × hs
  | 0, s, _, _ => (0, s)
  | fu + 1, s, v1, v2 => (if (fn10_isLetter (fn10_ch s (v1 + v2))) = 0 then (if v2 ≤ 0 then (fn10_attribute_c37 s v1 v2) else (if (fn10_ch s (v1 + v2)) = (45 : Int32) then (fn10_attribute_c2 fu s v1 (v2 + (1 : Int32))) else (fn10_attribute_c37 s v1 v2))) else (fn10_attribute_c2 fu s v1 (v2 + (1 : Int32))))
def wp10_attribute_c2 : Nat → hs → Int32 → Int32 → Prop
  | 0, _, _, _ => False
  | fu + 1, s, v1, v2 => ((wp10_ch s (v1 + v2)) ∧ ((wp10_isLetter (fn10_ch s (v1 + v2))) ∧ (((fn10_isLetter (fn10_ch s (v1 + v2))) = 0 → ((v2 ≤ 0 → (wp10_attribute_c37 s v1 v2)) ∧ (¬ v2 ≤ 0 → ((wp10_ch s (v1 + v2)) ∧ (((fn10_ch s (v1 + v2)) = (45 : Int32) → (wp10_attribute_c2 fu s v1 (v2 + (1 : Int32)))) ∧ (¬ (fn10_ch s (v1 + v2)) = (45 : Int32) → (wp10_attribute_c37 s v1 v2))))))) ∧ (¬ (fn10_isLetter (fn10_ch s (v1 + v2))) = 0 → (wp10_attribute_c2 fu s v1 (v2 + (1 : Int32)))))))
set_option maxRecDepth 100000 in
set_option maxHeartbeats 4000000 in
theorem rc10_attribute_2 : ∀ (fu : Nat) (s : hs) (v1 : Int32) (v2 : Int32) (j3 : Option am_V) (j4 : Option am_V) (g3 : am_loO 22 j3 = true) (g4 : am_loO 22 j4 = true) , wp10_attribute_c2 fu s v1 v2 → am_lf (am_mk kb10_attribute 0 0 22) [2, 37, 89, 137, 142, 152, 162] (2, [some (.inr (.inl 0)), some (.inl v1), some (.inl v2), j3, j4], [], (hm_w s), 0, 0) = some (some (.inl ((fn10_attribute_c2 fu s v1 v2).1)), (hm_w ((fn10_attribute_c2 fu s v1 v2).2))) := by
  intro fu
  induction fu with
  | zero =>
    intro s v1 v2 j3 j4 g3 g4 hp
    exact hp.elim
  | succ fu ih =>
    intro s v1 v2 j3 j4 g3 g4 hp
    unfold wp10_attribute_c2 at hp
    have i37 := @rc10_attribute_37
    refine am_lf_eq ?_
    generalize am_lf (am_mk kb10_attribute 0 0 22) [2, 37, 89, 137, 142, 152, 162] = kt at i37 ih ⊢
    refine am_cx (pre := pr10_ch) (f := fm10_ch) (r := (some (.inl (fn10_ch s (v1 + v2))), (hm_w s), 0, 0)) ?_ ?_ ?_ ?_
    · exact ⟨s, (v1 + v2), rfl, rfl, hp.1⟩
    · exact fe10_ch s (v1 + v2)
    · exact (am_ac rfl (am_ac rfl (am_ac rfl (am_ac g3 (am_ac g4 am_a0)))))
    refine am_cy (pre := pr10_isLetter) (f := fm10_isLetter) (a' := [.inl (fn10_ch s (v1 + v2))]) (wc := []) (w' := (hm_w s)) (r := (some (.inl (fn10_isLetter (fn10_ch s (v1 + v2)))), [], 0, 0)) ?_ ?_ ?_ ?_ ?_ ?_ ?_ ?_ ?_ ?_
    · exact am_sow0 _
    · rfl
    · rfl
    · exact am_sub0 _
    · exact ⟨(fn10_ch s (v1 + v2)), rfl, rfl, hp.2.1⟩
    · exact fe10_isLetter (fn10_ch s (v1 + v2))
    · exact rfl
    · rfl
    · exact am_mix0 _
    refine am_if (c := (fn10_isLetter (fn10_ch s (v1 + v2))) = 0) (fun h2 => ?_) (fun h2 => ?_)
    · have q2 := hp.2.2.1 h2
      refine am_if (c := v2 ≤ 0) (fun h3 => ?_) (fun h3 => ?_)
      · have q3 := q2.1 h3
        have e : fn10_attribute_c2 (fu + 1) s v1 v2 = fn10_attribute_c37 s v1 v2 := by
          rw [fn10_attribute_c2]
          rw [if_pos h2, if_pos h3]
        rw [e]
        exact i37 s v1 v2 _ _ g3 g4 q3
      · have q3 := q2.2 h3
        refine am_cx (pre := pr10_ch) (f := fm10_ch) (r := (some (.inl (fn10_ch s (v1 + v2))), (hm_w s), 0, 0)) ?_ ?_ ?_ ?_
        · exact ⟨s, (v1 + v2), rfl, rfl, q3.1⟩
        · exact fe10_ch s (v1 + v2)
        · exact (am_ac rfl (am_ac rfl (am_ac rfl (am_ac g3 (am_ac g4 am_a0)))))
        refine am_if (c := (fn10_ch s (v1 + v2)) = (45 : Int32)) (fun h4 => ?_) (fun h4 => ?_)
        · have q4 := q3.2.1 h4
          have e : fn10_attribute_c2 (fu + 1) s v1 v2 = fn10_attribute_c2 fu s v1 (v2 + (1 : Int32)) := by
            rw [fn10_attribute_c2]
            rw [if_pos h2, if_neg h3, if_pos h4]
          rw [e]
          exact ih s v1 (v2 + (1 : Int32)) _ _ g3 g4 q4
        · have q4 := q3.2.2 h4
          have e : fn10_attribute_c2 (fu + 1) s v1 v2 = fn10_attribute_c37 s v1 v2 := by
            rw [fn10_attribute_c2]
            rw [if_pos h2, if_neg h3, if_neg h4]
          rw [e]
          exact i37 s v1 v2 _ _ g3 g4 q4
    · have q2 := hp.2.2.2 h2
      have e : fn10_attribute_c2 (fu + 1) s v1 v2 = fn10_attribute_c2 fu s v1 (v2 + (1 : Int32)) := by
        rw [fn10_attribute_c2]
        rw [if_neg h2]
      rw [e]
      exact ih s v1 (v2 + (1 : Int32)) _ _ g3 g4 q2
noncomputable def fn10_attribute (s : hs) (p0 : Int32) : Int32 × hs := Classical.choose (⟨_, rfl⟩ : ∃ z : Int32 × hs, z = (fn10_attribute_c2 hg_fu s p0 (0 : Int32)))
theorem fq10_attribute (s : hs) (p0 : Int32) : fn10_attribute s p0 = (fn10_attribute_c2 hg_fu s p0 (0 : Int32)) := Classical.choose_spec (⟨_, rfl⟩ : ∃ z : Int32 × hs, z = (fn10_attribute_c2 hg_fu s p0 (0 : Int32)))
def wp10_attribute (s : hs) (p0 : Int32) : Prop := (wp10_attribute_c2 hg_fu s p0 (0 : Int32))
set_option maxRecDepth 100000 in
set_option maxHeartbeats 4000000 in
theorem re10_attribute (s : hs) (p0 : Int32) (hp : wp10_attribute s p0) : am_lf (am_mk kb10_attribute 0 0 22) [2, 37, 89, 137, 142, 152, 162] (0, am_L0 [.inr (.inl 0), .inl p0] 5, [], (hm_w s), 0, 0) = some (some (.inl ((fn10_attribute s p0).1)), (hm_w ((fn10_attribute s p0).2))) := by
  unfold wp10_attribute at hp
  have i2 := @rc10_attribute_2
  refine am_lf_eq ?_
  generalize am_lf (am_mk kb10_attribute 0 0 22) [2, 37, 89, 137, 142, 152, 162] = kt at i2 ⊢
  have e : fn10_attribute s p0 = fn10_attribute_c2 hg_fu s p0 (0 : Int32) := by
    rw [fq10_attribute]
  rw [e]
  exact i2 hg_fu s p0 (0 : Int32) _ _ rfl rfl hp
abbrev pr10_attribute : List am_V → List am_C → Prop := fun a w => ∃ (s : hs) (p0 : Int32), a = [.inr (.inl 0), .inl p0] ∧ w = (hm_w s) ∧ wp10_attribute s p0
noncomputable def fm10_attribute : am_M := fun a w => (fun (z : Int32 × hs) => (some (.inl (z.1)), (hm_w (z.2)), 0, 0)) (fn10_attribute (hm_st w 0) (am_i (am_an a 1)))
theorem fe10_attribute (s : hs) (p0 : Int32) : fm10_attribute [.inr (.inl 0), .inl p0] (hm_w s) = (some (.inl ((fn10_attribute s p0).1)), (hm_w ((fn10_attribute s p0).2)), 0, 0) := rfl
set_option maxRecDepth 100000 in
set_option maxHeartbeats 4000000 in
theorem rn10_attribute : ∀ (a : List am_V) (w : List am_C), pr10_attribute a w → ∃ nq, am_ev (am_mk kb10_attribute (fm10_attribute a w).2.2.1 (fm10_attribute a w).2.2.2 w.length) [2, 37, 89, 137, 142, 152, 162] nq (0, am_L0 a 5, [], w, 0, 0) = some ((fm10_attribute a w).1, (fm10_attribute a w).2.1) := by
  rintro a w ⟨s, p0, rfl, rfl, hp⟩
  rw [fe10_attribute s p0]
  exact am_lf_ev (re10_attribute s p0 hp)
theorem rl10_attribute : ∀ (a : List am_V) (w : List am_C), pr10_attribute a w → a.length ≤ 5 := by
  rintro a w ⟨s, p0, rfl, rfl, hp⟩
  exact Nat.le_of_ble_eq_true rfl
theorem pa10_attribute : ∀ a w, pr10_attribute a w → ∃ q a' ci fs r, a = .inr (.inl q) :: a' ∧ w[q]? = some (.inr (ci, fs)) ∧ hn_cl[ci]? = some r ∧ r.1 = hn_R10 := by
  rintro a w ⟨s, p0, rfl, rfl, hp⟩
  exact ⟨0, _, 10, _, _, rfl, rfl, rfl, rfl⟩
set_option maxRecDepth 100000 in
set_option maxHeartbeats 4000000 in
theorem km10_attribute {l : Launch} {E : (Nat → Prop) → State → Prop} {D : va_G} {ou : Nat → Nat} {ca : Nat → ClassId} (hE : am_EC E) : hg_Met l E D ou ca hy10_attribute prog_12_method_27_code 5 (some .int) 4 pr10_attribute fm10_attribute := by
  refine am_met (B := kb10_attribute) (cuts := [2, 37, 89, 137, 142, 152, 162]) (nt := 5) (by decide +kernel) rfl rfl (hg_tys_ok ca) ?_ (by decide) rl10_attribute ?_ rn10_attribute
  · exact fun t ht => List.mem_cons_of_mem _ (hg_arr t ht)
  · intro a w hp ad p e R s m args below meth c hR X hEs hnm
    have hR1 : 4 ≤ R.frames ∧ 160 ≤ R.locals := by rw [hR]; exact ⟨Nat.le_refl _, Nat.le_refl _⟩
    refine ⟨kd10_attribute_ok, fun index ci fi mode hq => kf10_ok X.2.2.2.2.1 (index, ci, fi, mode) (am_as_mem hq), fun index ci fs hq => (am_no hq).elim, fun x v hq => (am_no hq).elim, ?_, fun o t n f hq => (am_no hq).elim, rfl, rfl, by rw [hR]; exact Nat.le_refl _, by rw [hR]; exact Nat.le_refl _⟩
    intro pc sel n0 pre0 f0 hq
    have hz : ∀ q ∈ ki10_attribute, am_CK p l e R s m args below meth c D hn_cl (va_A (am_w ad ou ca w) s.heap.size) ou ca 5 q.1 q.2.2.1 q.2.2.2.1 q.2.2.2.2 := by
      refine am_allc (am_ck_V (n := 1) X hEs hE (km10_ch hE) (hg_good (gw_mem 1147 (by decide +kernel))) rfl (List.mem_cons_of_mem _ (gw_mem 76 (by decide +kernel))) (List.mem_cons_of_mem _ (gw_mem 1144 (by decide +kernel))) (List.mem_cons_of_mem _ (gw_mem 1146 (by decide +kernel))) (List.mem_cons_of_mem _ (gw_mem 21 (by decide +kernel))) pa10_ch (by decide +kernel) ⟨Nat.le_trans (by decide) hR1.1, Nat.le_trans (by decide) hR1.2⟩ (kd10_attribute_ok (6, .invokevirtual 114, 3) (List.mem_of_getElem? (i := 6) rfl))) (am_allc (am_ck_S (n := 1) X hEs hE (km10_isLetter hE) (hg_good (gw_mem 1157 (by decide +kernel))) rfl (List.mem_cons_of_mem _ (gw_mem 76 (by decide +kernel))) (List.mem_cons_of_mem _ (gw_mem 1155 (by decide +kernel))) (List.mem_cons_of_mem _ (gw_mem 1156 (by decide +kernel))) (by decide +kernel) ⟨Nat.le_trans (by decide) hR1.1, Nat.le_trans (by decide) hR1.2⟩ (kd10_attribute_ok (9, .invokestatic 111, 3) (List.mem_of_getElem? (i := 7) rfl))) (am_allc (am_ck_V (n := 1) X hEs hE (km10_ch hE) (hg_good (gw_mem 1147 (by decide +kernel))) rfl (List.mem_cons_of_mem _ (gw_mem 76 (by decide +kernel))) (List.mem_cons_of_mem _ (gw_mem 1144 (by decide +kernel))) (List.mem_cons_of_mem _ (gw_mem 1146 (by decide +kernel))) (List.mem_cons_of_mem _ (gw_mem 21 (by decide +kernel))) pa10_ch (by decide +kernel) ⟨Nat.le_trans (by decide) hR1.1, Nat.le_trans (by decide) hR1.2⟩ (kd10_attribute_ok (23, .invokevirtual 114, 3) (List.mem_of_getElem? (i := 15) rfl))) (am_allc (am_ck_V (n := 1) X hEs hE (km10_blanksFrom hE) (hg_good (gw_mem 1196 (by decide +kernel))) rfl (List.mem_cons_of_mem _ (gw_mem 76 (by decide +kernel))) (List.mem_cons_of_mem _ (gw_mem 1193 (by decide +kernel))) (List.mem_cons_of_mem _ (gw_mem 1195 (by decide +kernel))) (List.mem_cons_of_mem _ (gw_mem 31 (by decide +kernel))) pa10_blanksFrom (by decide +kernel) ⟨Nat.le_trans (by decide) hR1.1, Nat.le_trans (by decide) hR1.2⟩ (kd10_attribute_ok (41, .invokevirtual 168, 3) (List.mem_of_getElem? (i := 24) rfl))) (am_allc (am_ck_V (n := 1) X hEs hE (km10_ch hE) (hg_good (gw_mem 1147 (by decide +kernel))) rfl (List.mem_cons_of_mem _ (gw_mem 76 (by decide +kernel))) (List.mem_cons_of_mem _ (gw_mem 1144 (by decide +kernel))) (List.mem_cons_of_mem _ (gw_mem 1146 (by decide +kernel))) (List.mem_cons_of_mem _ (gw_mem 21 (by decide +kernel))) pa10_ch (by decide +kernel) ⟨Nat.le_trans (by decide) hR1.1, Nat.le_trans (by decide) hR1.2⟩ (kd10_attribute_ok (55, .invokevirtual 114, 3) (List.mem_of_getElem? (i := 34) rfl))) (am_allc (am_ck_V (n := 1) X hEs hE (km10_ch hE) (hg_good (gw_mem 1147 (by decide +kernel))) rfl (List.mem_cons_of_mem _ (gw_mem 76 (by decide +kernel))) (List.mem_cons_of_mem _ (gw_mem 1144 (by decide +kernel))) (List.mem_cons_of_mem _ (gw_mem 1146 (by decide +kernel))) (List.mem_cons_of_mem _ (gw_mem 21 (by decide +kernel))) pa10_ch (by decide +kernel) ⟨Nat.le_trans (by decide) hR1.1, Nat.le_trans (by decide) hR1.2⟩ (kd10_attribute_ok (70, .invokevirtual 114, 3) (List.mem_of_getElem? (i := 41) rfl))) (am_allc (am_ck_V (n := 1) X hEs hE (km10_ch hE) (hg_good (gw_mem 1147 (by decide +kernel))) rfl (List.mem_cons_of_mem _ (gw_mem 76 (by decide +kernel))) (List.mem_cons_of_mem _ (gw_mem 1144 (by decide +kernel))) (List.mem_cons_of_mem _ (gw_mem 1146 (by decide +kernel))) (List.mem_cons_of_mem _ (gw_mem 21 (by decide +kernel))) pa10_ch (by decide +kernel) ⟨Nat.le_trans (by decide) hR1.1, Nat.le_trans (by decide) hR1.2⟩ (kd10_attribute_ok (81, .invokevirtual 114, 3) (List.mem_of_getElem? (i := 46) rfl))) (am_allc (am_ck_V (n := 1) X hEs hE (km10_blanksFrom hE) (hg_good (gw_mem 1196 (by decide +kernel))) rfl (List.mem_cons_of_mem _ (gw_mem 76 (by decide +kernel))) (List.mem_cons_of_mem _ (gw_mem 1193 (by decide +kernel))) (List.mem_cons_of_mem _ (gw_mem 1195 (by decide +kernel))) (List.mem_cons_of_mem _ (gw_mem 31 (by decide +kernel))) pa10_blanksFrom (by decide +kernel) ⟨Nat.le_trans (by decide) hR1.1, Nat.le_trans (by decide) hR1.2⟩ (kd10_attribute_ok (107, .invokevirtual 168, 3) (List.mem_of_getElem? (i := 62) rfl))) (am_allc (am_ck_V (n := 1) X hEs hE (km10_ch hE) (hg_good (gw_mem 1147 (by decide +kernel))) rfl (List.mem_cons_of_mem _ (gw_mem 76 (by decide +kernel))) (List.mem_cons_of_mem _ (gw_mem 1144 (by decide +kernel))) (List.mem_cons_of_mem _ (gw_mem 1146 (by decide +kernel))) (List.mem_cons_of_mem _ (gw_mem 21 (by decide +kernel))) pa10_ch (by decide +kernel) ⟨Nat.le_trans (by decide) hR1.1, Nat.le_trans (by decide) hR1.2⟩ (kd10_attribute_ok (116, .invokevirtual 114, 3) (List.mem_of_getElem? (i := 67) rfl))) (am_allc (am_ck_V (n := 1) X hEs hE (km10_ch hE) (hg_good (gw_mem 1147 (by decide +kernel))) rfl (List.mem_cons_of_mem _ (gw_mem 76 (by decide +kernel))) (List.mem_cons_of_mem _ (gw_mem 1144 (by decide +kernel))) (List.mem_cons_of_mem _ (gw_mem 1146 (by decide +kernel))) (List.mem_cons_of_mem _ (gw_mem 21 (by decide +kernel))) pa10_ch (by decide +kernel) ⟨Nat.le_trans (by decide) hR1.1, Nat.le_trans (by decide) hR1.2⟩ (kd10_attribute_ok (127, .invokevirtual 114, 3) (List.mem_of_getElem? (i := 72) rfl))) (am_allc (am_ck_V (n := 2) X hEs hE (km10_kindOf hE) (hg_good (gw_mem 1200 (by decide +kernel))) rfl (List.mem_cons_of_mem _ (gw_mem 76 (by decide +kernel))) (List.mem_cons_of_mem _ (gw_mem 1197 (by decide +kernel))) (List.mem_cons_of_mem _ (gw_mem 1199 (by decide +kernel))) (List.mem_cons_of_mem _ (gw_mem 32 (by decide +kernel))) pa10_kindOf (by decide +kernel) ⟨Nat.le_trans (by decide) hR1.1, Nat.le_trans (by decide) hR1.2⟩ (kd10_attribute_ok (146, .invokevirtual 171, 3) (List.mem_of_getElem? (i := 84) rfl))) (am_allc (am_ck_V (n := 1) X hEs hE (km10_ch hE) (hg_good (gw_mem 1147 (by decide +kernel))) rfl (List.mem_cons_of_mem _ (gw_mem 76 (by decide +kernel))) (List.mem_cons_of_mem _ (gw_mem 1144 (by decide +kernel))) (List.mem_cons_of_mem _ (gw_mem 1146 (by decide +kernel))) (List.mem_cons_of_mem _ (gw_mem 21 (by decide +kernel))) pa10_ch (by decide +kernel) ⟨Nat.le_trans (by decide) hR1.1, Nat.le_trans (by decide) hR1.2⟩ (kd10_attribute_ok (156, .invokevirtual 114, 3) (List.mem_of_getElem? (i := 89) rfl))) (am_all0))))))))))))
    exact hz _ (am_as_mem hq)
noncomputable def ki10_tagPiece : List (Nat × Option (List Nat) × Nat × (List am_V → List am_C → Prop) × am_M) := [(2, none, 2, pr10_ch, fm10_ch), (7, some [], 1, pr10_isBlank, fm10_isBlank), (59, none, 2, pr10_go, fm10_go), (74, none, 2, pr10_ch, fm10_ch), (101, none, 2, pr10_go, fm10_go), (115, some [], 1, pr10_isLetter, fm10_isLetter), (123, none, 2, pr10_attribute, fm10_attribute)]
noncomputable def kb10_tagPiece : am_B := (kd10_tagPiece, am_as kf10, hn_ty, fun _ => none, fun _ => none, am_as ki10_tagPiece, fun _ => none, 5, 4, (some .int))
noncomputable def fn10_tagPiece_c59 (s : hs) (u0 : Int32) : Int32 × hs := ((1 : Int32), (fn10_go s u0))
def wp10_tagPiece_c59 (s : hs) (u0 : Int32) : Prop := (wp10_go s u0)
set_option maxRecDepth 100000 in
set_option maxHeartbeats 4000000 in
theorem rc10_tagPiece_59 (s : hs) (u0 : Int32) (j1 : Option am_V) (j2 : Option am_V) (j3 : Option am_V) (g1 : am_loO 22 j1 = true) (g2 : am_loO 22 j2 = true) (g3 : am_loO 22 j3 = true) (hp : wp10_tagPiece_c59 s u0) : am_lf (am_mk kb10_tagPiece 0 0 22) [59, 93, 94, 104] (59, [some (.inr (.inl 0)), j1, j2, j3], [.inl u0, .inr (.inl 0)], (hm_w s), 0, 0) = some (some (.inl ((fn10_tagPiece_c59 s u0).1)), (hm_w ((fn10_tagPiece_c59 s u0).2))) := by
  unfold wp10_tagPiece_c59 at hp
  refine am_lf_eq ?_
  generalize am_lf (am_mk kb10_tagPiece 0 0 22) [59, 93, 94, 104] = kt
  refine am_cx (pre := pr10_go) (f := fm10_go) (r := (none, (hm_w (fn10_go s u0)), 0, 0)) ?_ ?_ ?_ ?_
  · exact ⟨s, u0, rfl, rfl, hp⟩
  · exact fe10_go s u0
  · exact (am_ac rfl (am_ac g1 (am_ac g2 (am_ac g3 am_a0))))
  have e : fn10_tagPiece_c59 s u0 = ((1 : Int32), (fn10_go s u0)) := by
    rw [fn10_tagPiece_c59]
  rw [e] <;> rfl
noncomputable def fn10_tagPiece_c104 (s : hs) (v3 : Int32) : Int32 × hs := (if v3 = 0 then ((0 : Int32), s) else ((2 : Int32), s))
def wp10_tagPiece_c104 (s : hs) (v3 : Int32) : Prop := True
set_option maxRecDepth 100000 in
set_option maxHeartbeats 4000000 in
theorem rc10_tagPiece_104 (s : hs) (v3 : Int32) (j1 : Option am_V) (j2 : Option am_V) (g1 : am_loO 22 j1 = true) (g2 : am_loO 22 j2 = true) (hp : wp10_tagPiece_c104 s v3) : am_lf (am_mk kb10_tagPiece 0 0 22) [59, 93, 94, 104] (104, [some (.inr (.inl 0)), j1, j2, some (.inl v3)], [], (hm_w s), 0, 0) = some (some (.inl ((fn10_tagPiece_c104 s v3).1)), (hm_w ((fn10_tagPiece_c104 s v3).2))) := by
  unfold wp10_tagPiece_c104 at hp
  refine am_lf_eq ?_
  generalize am_lf (am_mk kb10_tagPiece 0 0 22) [59, 93, 94, 104] = kt
  refine am_if (c := v3 = 0) (fun h1 => ?_) (fun h1 => ?_)
  · have e : fn10_tagPiece_c104 s v3 = ((0 : Int32), s) := by
      rw [fn10_tagPiece_c104]
      rw [if_pos h1]
    rw [e] <;> rfl
  · have e : fn10_tagPiece_c104 s v3 = ((2 : Int32), s) := by
      rw [fn10_tagPiece_c104]
      rw [if_neg h1]
    rw [e] <;> rfl
noncomputable def fn10_tagPiece_c94 (s : hs) (u0 : Int32) : Int32 × hs := (if u0 = 0 then (fn10_tagPiece_c104 s u0) else (fn10_tagPiece_c104 (fn10_go s (0 : Int32)) u0))
def wp10_tagPiece_c94 (s : hs) (u0 : Int32) : Prop := ((u0 = 0 → (wp10_tagPiece_c104 s u0)) ∧ (¬ u0 = 0 → ((wp10_go s (0 : Int32)) ∧ (wp10_tagPiece_c104 (fn10_go s (0 : Int32)) u0))))
set_option maxRecDepth 100000 in
set_option maxHeartbeats 4000000 in
theorem rc10_tagPiece_94 (s : hs) (u0 : Int32) (j1 : Option am_V) (j2 : Option am_V) (j3 : Option am_V) (g1 : am_loO 22 j1 = true) (g2 : am_loO 22 j2 = true) (g3 : am_loO 22 j3 = true) (hp : wp10_tagPiece_c94 s u0) : am_lf (am_mk kb10_tagPiece 0 0 22) [59, 93, 94, 104] (94, [some (.inr (.inl 0)), j1, j2, j3], [.inl u0], (hm_w s), 0, 0) = some (some (.inl ((fn10_tagPiece_c94 s u0).1)), (hm_w ((fn10_tagPiece_c94 s u0).2))) := by
  unfold wp10_tagPiece_c94 at hp
  have i104 := @rc10_tagPiece_104
  refine am_lf_eq ?_
  generalize am_lf (am_mk kb10_tagPiece 0 0 22) [59, 93, 94, 104] = kt at i104 ⊢
  refine am_if (c := u0 = 0) (fun h1 => ?_) (fun h1 => ?_)
  · have q1 := hp.1 h1
    have e : fn10_tagPiece_c94 s u0 = fn10_tagPiece_c104 s u0 := by
      rw [fn10_tagPiece_c94]
      rw [if_pos h1]
    rw [e]
    exact i104 s u0 _ _ g1 g2 q1
  · have q1 := hp.2 h1
    refine am_cx (pre := pr10_go) (f := fm10_go) (r := (none, (hm_w (fn10_go s (0 : Int32))), 0, 0)) ?_ ?_ ?_ ?_
    · exact ⟨s, (0 : Int32), rfl, rfl, q1.1⟩
    · exact fe10_go s (0 : Int32)
    · exact (am_ac rfl (am_ac g1 (am_ac g2 (am_ac rfl am_a0))))
    have e : fn10_tagPiece_c94 s u0 = fn10_tagPiece_c104 (fn10_go s (0 : Int32)) u0 := by
      rw [fn10_tagPiece_c94]
      rw [if_neg h1]
    rw [e]
    exact i104 (fn10_go s (0 : Int32)) u0 _ _ g1 g2 q1.2
noncomputable def fn10_tagPiece_c93 (s : hs) : Int32 × hs := (fn10_tagPiece_c94 s (0 : Int32))
def wp10_tagPiece_c93 (s : hs) : Prop := (wp10_tagPiece_c94 s (0 : Int32))
set_option maxRecDepth 100000 in
set_option maxHeartbeats 4000000 in
theorem rc10_tagPiece_93 (s : hs) (j1 : Option am_V) (j2 : Option am_V) (j3 : Option am_V) (g1 : am_loO 22 j1 = true) (g2 : am_loO 22 j2 = true) (g3 : am_loO 22 j3 = true) (hp : wp10_tagPiece_c93 s) : am_lf (am_mk kb10_tagPiece 0 0 22) [59, 93, 94, 104] (93, [some (.inr (.inl 0)), j1, j2, j3], [], (hm_w s), 0, 0) = some (some (.inl ((fn10_tagPiece_c93 s).1)), (hm_w ((fn10_tagPiece_c93 s).2))) := by
  unfold wp10_tagPiece_c93 at hp
  have i94 := @rc10_tagPiece_94
  refine am_lf_eq ?_
  generalize am_lf (am_mk kb10_tagPiece 0 0 22) [59, 93, 94, 104] = kt at i94 ⊢
  have e : fn10_tagPiece_c93 s = fn10_tagPiece_c94 s (0 : Int32) := by
    rw [fn10_tagPiece_c93]
  rw [e]
  exact i94 s (0 : Int32) _ _ _ g1 g2 g3 hp
noncomputable def fn10_tagPiece (s : hs) (p0 : Int32) : Int32 × hs := Classical.choose (⟨_, rfl⟩ : ∃ z : Int32 × hs, z = (if (fn10_isBlank (fn10_ch s p0)) = 0 then (if (fn10_ch s p0) = (62 : Int32) then (if (hm_element s) = (1 : Int32) then (fn10_tagPiece_c59 s (3 : Int32)) else (if (hm_element s) = (2 : Int32) then (fn10_tagPiece_c59 s (4 : Int32)) else (if (hm_element s) = (3 : Int32) then (fn10_tagPiece_c59 s (5 : Int32)) else (fn10_tagPiece_c59 s (0 : Int32))))) else (if (fn10_ch s p0) = (47 : Int32) then (if (fn10_ch s (p0 + (1 : Int32))) = (62 : Int32) then (if (hm_element s) = 0 then (fn10_tagPiece_c94 s (1 : Int32)) else (fn10_tagPiece_c93 s)) else (fn10_tagPiece_c93 s)) else (if (fn10_isLetter (fn10_ch s p0)) = 0 then ((0 : Int32), s) else ((fn10_attribute s p0).1, (fn10_attribute s p0).2)))) else ((1 : Int32), s)))
theorem fq10_tagPiece (s : hs) (p0 : Int32) : fn10_tagPiece s p0 = (if (fn10_isBlank (fn10_ch s p0)) = 0 then (if (fn10_ch s p0) = (62 : Int32) then (if (hm_element s) = (1 : Int32) then (fn10_tagPiece_c59 s (3 : Int32)) else (if (hm_element s) = (2 : Int32) then (fn10_tagPiece_c59 s (4 : Int32)) else (if (hm_element s) = (3 : Int32) then (fn10_tagPiece_c59 s (5 : Int32)) else (fn10_tagPiece_c59 s (0 : Int32))))) else (if (fn10_ch s p0) = (47 : Int32) then (if (fn10_ch s (p0 + (1 : Int32))) = (62 : Int32) then (if (hm_element s) = 0 then (fn10_tagPiece_c94 s (1 : Int32)) else (fn10_tagPiece_c93 s)) else (fn10_tagPiece_c93 s)) else (if (fn10_isLetter (fn10_ch s p0)) = 0 then ((0 : Int32), s) else ((fn10_attribute s p0).1, (fn10_attribute s p0).2)))) else ((1 : Int32), s)) := Classical.choose_spec (⟨_, rfl⟩ : ∃ z : Int32 × hs, z = (if (fn10_isBlank (fn10_ch s p0)) = 0 then (if (fn10_ch s p0) = (62 : Int32) then (if (hm_element s) = (1 : Int32) then (fn10_tagPiece_c59 s (3 : Int32)) else (if (hm_element s) = (2 : Int32) then (fn10_tagPiece_c59 s (4 : Int32)) else (if (hm_element s) = (3 : Int32) then (fn10_tagPiece_c59 s (5 : Int32)) else (fn10_tagPiece_c59 s (0 : Int32))))) else (if (fn10_ch s p0) = (47 : Int32) then (if (fn10_ch s (p0 + (1 : Int32))) = (62 : Int32) then (if (hm_element s) = 0 then (fn10_tagPiece_c94 s (1 : Int32)) else (fn10_tagPiece_c93 s)) else (fn10_tagPiece_c93 s)) else (if (fn10_isLetter (fn10_ch s p0)) = 0 then ((0 : Int32), s) else ((fn10_attribute s p0).1, (fn10_attribute s p0).2)))) else ((1 : Int32), s)))
def wp10_tagPiece (s : hs) (p0 : Int32) : Prop := ((wp10_ch s p0) ∧ ((wp10_isBlank (fn10_ch s p0)) ∧ (((fn10_isBlank (fn10_ch s p0)) = 0 → (((fn10_ch s p0) = (62 : Int32) → (((hm_element s) = (1 : Int32) → (wp10_tagPiece_c59 s (3 : Int32))) ∧ (¬ (hm_element s) = (1 : Int32) → (((hm_element s) = (2 : Int32) → (wp10_tagPiece_c59 s (4 : Int32))) ∧ (¬ (hm_element s) = (2 : Int32) → (((hm_element s) = (3 : Int32) → (wp10_tagPiece_c59 s (5 : Int32))) ∧ (¬ (hm_element s) = (3 : Int32) → (wp10_tagPiece_c59 s (0 : Int32))))))))) ∧ (¬ (fn10_ch s p0) = (62 : Int32) → (((fn10_ch s p0) = (47 : Int32) → ((wp10_ch s (p0 + (1 : Int32))) ∧ (((fn10_ch s (p0 + (1 : Int32))) = (62 : Int32) → (((hm_element s) = 0 → (wp10_tagPiece_c94 s (1 : Int32))) ∧ (¬ (hm_element s) = 0 → (wp10_tagPiece_c93 s)))) ∧ (¬ (fn10_ch s (p0 + (1 : Int32))) = (62 : Int32) → (wp10_tagPiece_c93 s))))) ∧ (¬ (fn10_ch s p0) = (47 : Int32) → ((wp10_isLetter (fn10_ch s p0)) ∧ (((fn10_isLetter (fn10_ch s p0)) = 0 → True) ∧ (¬ (fn10_isLetter (fn10_ch s p0)) = 0 → (wp10_attribute s p0))))))))) ∧ (¬ (fn10_isBlank (fn10_ch s p0)) = 0 → True))))
set_option maxRecDepth 100000 in
set_option maxHeartbeats 4000000 in
theorem re10_tagPiece (s : hs) (p0 : Int32) (hp : wp10_tagPiece s p0) : am_lf (am_mk kb10_tagPiece 0 0 22) [59, 93, 94, 104] (0, am_L0 [.inr (.inl 0), .inl p0] 4, [], (hm_w s), 0, 0) = some (some (.inl ((fn10_tagPiece s p0).1)), (hm_w ((fn10_tagPiece s p0).2))) := by
  unfold wp10_tagPiece at hp
  have i59 := @rc10_tagPiece_59
  have i93 := @rc10_tagPiece_93
  have i94 := @rc10_tagPiece_94
  refine am_lf_eq ?_
  generalize am_lf (am_mk kb10_tagPiece 0 0 22) [59, 93, 94, 104] = kt at i59 i93 i94 ⊢
  refine am_cx (pre := pr10_ch) (f := fm10_ch) (r := (some (.inl (fn10_ch s p0)), (hm_w s), 0, 0)) ?_ ?_ ?_ ?_
  · exact ⟨s, p0, rfl, rfl, hp.1⟩
  · exact fe10_ch s p0
  · exact rfl
  refine am_cy (pre := pr10_isBlank) (f := fm10_isBlank) (a' := [.inl (fn10_ch s p0)]) (wc := []) (w' := (hm_w s)) (r := (some (.inl (fn10_isBlank (fn10_ch s p0))), [], 0, 0)) ?_ ?_ ?_ ?_ ?_ ?_ ?_ ?_ ?_ ?_
  · exact am_sow0 _
  · rfl
  · rfl
  · exact am_sub0 _
  · exact ⟨(fn10_ch s p0), rfl, rfl, hp.2.1⟩
  · exact fe10_isBlank (fn10_ch s p0)
  · exact rfl
  · rfl
  · exact am_mix0 _
  refine am_if (c := (fn10_isBlank (fn10_ch s p0)) = 0) (fun h1 => ?_) (fun h1 => ?_)
  · have q1 := hp.2.2.1 h1
    refine am_if (c := (fn10_ch s p0) = (62 : Int32)) (fun h2 => ?_) (fun h2 => ?_)
    · have q2 := q1.1 h2
      refine am_if (c := (hm_element s) = (1 : Int32)) (fun h3 => ?_) (fun h3 => ?_)
      · have q3 := q2.1 h3
        have e : fn10_tagPiece s p0 = fn10_tagPiece_c59 s (3 : Int32) := by
          rw [fq10_tagPiece]
          rw [if_pos h1, if_pos h2, if_pos h3]
        rw [e]
        exact i59 s (3 : Int32) _ _ _ rfl rfl rfl q3
      · have q3 := q2.2 h3
        refine am_if (c := (hm_element s) = (2 : Int32)) (fun h4 => ?_) (fun h4 => ?_)
        · have q4 := q3.1 h4
          have e : fn10_tagPiece s p0 = fn10_tagPiece_c59 s (4 : Int32) := by
            rw [fq10_tagPiece]
            rw [if_pos h1, if_pos h2, if_neg h3, if_pos h4]
          rw [e]
          exact i59 s (4 : Int32) _ _ _ rfl rfl rfl q4
        · have q4 := q3.2 h4
          refine am_if (c := (hm_element s) = (3 : Int32)) (fun h5 => ?_) (fun h5 => ?_)
          · have q5 := q4.1 h5
            have e : fn10_tagPiece s p0 = fn10_tagPiece_c59 s (5 : Int32) := by
              rw [fq10_tagPiece]
              rw [if_pos h1, if_pos h2, if_neg h3, if_neg h4, if_pos h5]
            rw [e]
            exact i59 s (5 : Int32) _ _ _ rfl rfl rfl q5
          · have q5 := q4.2 h5
            have e : fn10_tagPiece s p0 = fn10_tagPiece_c59 s (0 : Int32) := by
              rw [fq10_tagPiece]
              rw [if_pos h1, if_pos h2, if_neg h3, if_neg h4, if_neg h5]
            rw [e]
            exact i59 s (0 : Int32) _ _ _ rfl rfl rfl q5
    · have q2 := q1.2 h2
      refine am_if (c := (fn10_ch s p0) = (47 : Int32)) (fun h3 => ?_) (fun h3 => ?_)
      · have q3 := q2.1 h3
        refine am_cx (pre := pr10_ch) (f := fm10_ch) (r := (some (.inl (fn10_ch s (p0 + (1 : Int32)))), (hm_w s), 0, 0)) ?_ ?_ ?_ ?_
        · exact ⟨s, (p0 + (1 : Int32)), rfl, rfl, q3.1⟩
        · exact fe10_ch s (p0 + (1 : Int32))
        · exact rfl
        refine am_if (c := (fn10_ch s (p0 + (1 : Int32))) = (62 : Int32)) (fun h4 => ?_) (fun h4 => ?_)
        · have q4 := q3.2.1 h4
          refine am_if (c := (hm_element s) = 0) (fun h5 => ?_) (fun h5 => ?_)
          · have q5 := q4.1 h5
            have e : fn10_tagPiece s p0 = fn10_tagPiece_c94 s (1 : Int32) := by
              rw [fq10_tagPiece]
              rw [if_pos h1, if_neg h2, if_pos h3, if_pos h4, if_pos h5]
            rw [e]
            exact i94 s (1 : Int32) _ _ _ rfl rfl rfl q5
          · have q5 := q4.2 h5
            have e : fn10_tagPiece s p0 = fn10_tagPiece_c93 s := by
              rw [fq10_tagPiece]
              rw [if_pos h1, if_neg h2, if_pos h3, if_pos h4, if_neg h5]
            rw [e]
            exact i93 s _ _ _ rfl rfl rfl q5
        · have q4 := q3.2.2 h4
          have e : fn10_tagPiece s p0 = fn10_tagPiece_c93 s := by
            rw [fq10_tagPiece]
            rw [if_pos h1, if_neg h2, if_pos h3, if_neg h4]
          rw [e]
          exact i93 s _ _ _ rfl rfl rfl q4
      · have q3 := q2.2 h3
        refine am_cy (pre := pr10_isLetter) (f := fm10_isLetter) (a' := [.inl (fn10_ch s p0)]) (wc := []) (w' := (hm_w s)) (r := (some (.inl (fn10_isLetter (fn10_ch s p0))), [], 0, 0)) ?_ ?_ ?_ ?_ ?_ ?_ ?_ ?_ ?_ ?_
        · exact am_sow0 _
        · rfl
        · rfl
        · exact am_sub0 _
        · exact ⟨(fn10_ch s p0), rfl, rfl, q3.1⟩
        · exact fe10_isLetter (fn10_ch s p0)
        · exact rfl
        · rfl
        · exact am_mix0 _
        refine am_if (c := (fn10_isLetter (fn10_ch s p0)) = 0) (fun h4 => ?_) (fun h4 => ?_)
        · have e : fn10_tagPiece s p0 = ((0 : Int32), s) := by
            rw [fq10_tagPiece]
            rw [if_pos h1, if_neg h2, if_neg h3, if_pos h4]
          rw [e] <;> rfl
        · have q4 := q3.2.2 h4
          refine am_cx (pre := pr10_attribute) (f := fm10_attribute) (r := (some (.inl ((fn10_attribute s p0).1)), (hm_w ((fn10_attribute s p0).2)), 0, 0)) ?_ ?_ ?_ ?_
          · exact ⟨s, p0, rfl, rfl, q4⟩
          · exact fe10_attribute s p0
          · exact rfl
          have e : fn10_tagPiece s p0 = ((fn10_attribute s p0).1, (fn10_attribute s p0).2) := by
            rw [fq10_tagPiece]
            rw [if_pos h1, if_neg h2, if_neg h3, if_neg h4]
          rw [e] <;> rfl
  · have e : fn10_tagPiece s p0 = ((1 : Int32), s) := by
      rw [fq10_tagPiece]
      rw [if_neg h1]
    rw [e] <;> rfl
abbrev pr10_tagPiece : List am_V → List am_C → Prop := fun a w => ∃ (s : hs) (p0 : Int32), a = [.inr (.inl 0), .inl p0] ∧ w = (hm_w s) ∧ wp10_tagPiece s p0
noncomputable def fm10_tagPiece : am_M := fun a w => (fun (z : Int32 × hs) => (some (.inl (z.1)), (hm_w (z.2)), 0, 0)) (fn10_tagPiece (hm_st w 0) (am_i (am_an a 1)))
theorem fe10_tagPiece (s : hs) (p0 : Int32) : fm10_tagPiece [.inr (.inl 0), .inl p0] (hm_w s) = (some (.inl ((fn10_tagPiece s p0).1)), (hm_w ((fn10_tagPiece s p0).2)), 0, 0) := rfl
set_option maxRecDepth 100000 in
set_option maxHeartbeats 4000000 in
theorem rn10_tagPiece : ∀ (a : List am_V) (w : List am_C), pr10_tagPiece a w → ∃ nq, am_ev (am_mk kb10_tagPiece (fm10_tagPiece a w).2.2.1 (fm10_tagPiece a w).2.2.2 w.length) [59, 93, 94, 104] nq (0, am_L0 a 4, [], w, 0, 0) = some ((fm10_tagPiece a w).1, (fm10_tagPiece a w).2.1) := by
  rintro a w ⟨s, p0, rfl, rfl, hp⟩
  rw [fe10_tagPiece s p0]
  exact am_lf_ev (re10_tagPiece s p0 hp)
theorem rl10_tagPiece : ∀ (a : List am_V) (w : List am_C), pr10_tagPiece a w → a.length ≤ 4 := by
  rintro a w ⟨s, p0, rfl, rfl, hp⟩
  exact Nat.le_of_ble_eq_true rfl
theorem pa10_tagPiece : ∀ a w, pr10_tagPiece a w → ∃ q a' ci fs r, a = .inr (.inl q) :: a' ∧ w[q]? = some (.inr (ci, fs)) ∧ hn_cl[ci]? = some r ∧ r.1 = hn_R10 := by
  rintro a w ⟨s, p0, rfl, rfl, hp⟩
  exact ⟨0, _, 10, _, _, rfl, rfl, rfl, rfl⟩
set_option maxRecDepth 100000 in
set_option maxHeartbeats 4000000 in
theorem km10_tagPiece {l : Launch} {E : (Nat → Prop) → State → Prop} {D : va_G} {ou : Nat → Nat} {ca : Nat → ClassId} (hE : am_EC E) : hg_Met l E D ou ca hy10_tagPiece prog_12_method_28_code 4 (some .int) 5 pr10_tagPiece fm10_tagPiece := by
  refine am_met (B := kb10_tagPiece) (cuts := [59, 93, 94, 104]) (nt := 5) (by decide +kernel) rfl rfl (hg_tys_ok ca) ?_ (by decide) rl10_tagPiece ?_ rn10_tagPiece
  · exact fun t ht => List.mem_cons_of_mem _ (hg_arr t ht)
  · intro a w hp ad p e R s m args below meth c hR X hEs hnm
    have hR1 : 5 ≤ R.frames ∧ 200 ≤ R.locals := by rw [hR]; exact ⟨Nat.le_refl _, Nat.le_refl _⟩
    refine ⟨kd10_tagPiece_ok, fun index ci fi mode hq => kf10_ok X.2.2.2.2.1 (index, ci, fi, mode) (am_as_mem hq), fun index ci fs hq => (am_no hq).elim, fun x v hq => (am_no hq).elim, ?_, fun o t n f hq => (am_no hq).elim, rfl, rfl, by rw [hR]; exact Nat.le_refl _, by rw [hR]; exact Nat.le_refl _⟩
    intro pc sel n0 pre0 f0 hq
    have hz : ∀ q ∈ ki10_tagPiece, am_CK p l e R s m args below meth c D hn_cl (va_A (am_w ad ou ca w) s.heap.size) ou ca 4 q.1 q.2.2.1 q.2.2.2.1 q.2.2.2.2 := by
      refine am_allc (am_ck_V (n := 1) X hEs hE (km10_ch hE) (hg_good (gw_mem 1147 (by decide +kernel))) rfl (List.mem_cons_of_mem _ (gw_mem 76 (by decide +kernel))) (List.mem_cons_of_mem _ (gw_mem 1144 (by decide +kernel))) (List.mem_cons_of_mem _ (gw_mem 1146 (by decide +kernel))) (List.mem_cons_of_mem _ (gw_mem 21 (by decide +kernel))) pa10_ch (by decide +kernel) ⟨Nat.le_trans (by decide) hR1.1, Nat.le_trans (by decide) hR1.2⟩ (kd10_tagPiece_ok (2, .invokevirtual 114, 3) (List.mem_of_getElem? (i := 2) rfl))) (am_allc (am_ck_S (n := 1) X hEs hE (km10_isBlank hE) (hg_good (gw_mem 1168 (by decide +kernel))) rfl (List.mem_cons_of_mem _ (gw_mem 76 (by decide +kernel))) (List.mem_cons_of_mem _ (gw_mem 1166 (by decide +kernel))) (List.mem_cons_of_mem _ (gw_mem 1167 (by decide +kernel))) (by decide +kernel) ⟨Nat.le_trans (by decide) hR1.1, Nat.le_trans (by decide) hR1.2⟩ (kd10_tagPiece_ok (7, .invokestatic 117, 3) (List.mem_of_getElem? (i := 5) rfl))) (am_allc (am_ck_V (n := 1) X hEs hE (km10_go hE) (hg_good (gw_mem 1135 (by decide +kernel))) rfl (List.mem_cons_of_mem _ (gw_mem 76 (by decide +kernel))) (List.mem_cons_of_mem _ (gw_mem 1132 (by decide +kernel))) (List.mem_cons_of_mem _ (gw_mem 1134 (by decide +kernel))) (List.mem_cons_of_mem _ (gw_mem 18 (by decide +kernel))) pa10_go (by decide +kernel) ⟨Nat.le_trans (by decide) hR1.1, Nat.le_trans (by decide) hR1.2⟩ (kd10_tagPiece_ok (59, .invokevirtual 151, 3) (List.mem_of_getElem? (i := 32) rfl))) (am_allc (am_ck_V (n := 1) X hEs hE (km10_ch hE) (hg_good (gw_mem 1147 (by decide +kernel))) rfl (List.mem_cons_of_mem _ (gw_mem 76 (by decide +kernel))) (List.mem_cons_of_mem _ (gw_mem 1144 (by decide +kernel))) (List.mem_cons_of_mem _ (gw_mem 1146 (by decide +kernel))) (List.mem_cons_of_mem _ (gw_mem 21 (by decide +kernel))) pa10_ch (by decide +kernel) ⟨Nat.le_trans (by decide) hR1.1, Nat.le_trans (by decide) hR1.2⟩ (kd10_tagPiece_ok (74, .invokevirtual 114, 3) (List.mem_of_getElem? (i := 42) rfl))) (am_allc (am_ck_V (n := 1) X hEs hE (km10_go hE) (hg_good (gw_mem 1135 (by decide +kernel))) rfl (List.mem_cons_of_mem _ (gw_mem 76 (by decide +kernel))) (List.mem_cons_of_mem _ (gw_mem 1132 (by decide +kernel))) (List.mem_cons_of_mem _ (gw_mem 1134 (by decide +kernel))) (List.mem_cons_of_mem _ (gw_mem 18 (by decide +kernel))) pa10_go (by decide +kernel) ⟨Nat.le_trans (by decide) hR1.1, Nat.le_trans (by decide) hR1.2⟩ (kd10_tagPiece_ok (101, .invokevirtual 151, 3) (List.mem_of_getElem? (i := 56) rfl))) (am_allc (am_ck_S (n := 1) X hEs hE (km10_isLetter hE) (hg_good (gw_mem 1157 (by decide +kernel))) rfl (List.mem_cons_of_mem _ (gw_mem 76 (by decide +kernel))) (List.mem_cons_of_mem _ (gw_mem 1155 (by decide +kernel))) (List.mem_cons_of_mem _ (gw_mem 1156 (by decide +kernel))) (by decide +kernel) ⟨Nat.le_trans (by decide) hR1.1, Nat.le_trans (by decide) hR1.2⟩ (kd10_tagPiece_ok (115, .invokestatic 111, 3) (List.mem_of_getElem? (i := 64) rfl))) (am_allc (am_ck_V (n := 1) X hEs hE (km10_attribute hE) (hg_good (gw_mem 1192 (by decide +kernel))) rfl (List.mem_cons_of_mem _ (gw_mem 76 (by decide +kernel))) (List.mem_cons_of_mem _ (gw_mem 1189 (by decide +kernel))) (List.mem_cons_of_mem _ (gw_mem 1191 (by decide +kernel))) (List.mem_cons_of_mem _ (gw_mem 30 (by decide +kernel))) pa10_attribute (by decide +kernel) ⟨Nat.le_trans (by decide) hR1.1, Nat.le_trans (by decide) hR1.2⟩ (kd10_tagPiece_ok (123, .invokevirtual 175, 3) (List.mem_of_getElem? (i := 68) rfl))) (am_all0)))))))
    exact hz _ (am_as_mem hq)
noncomputable def ki10_urlPiece : List (Nat × Option (List Nat) × Nat × (List am_V → List am_C → Prop) × am_M) := [(2, none, 2, pr10_ch, fm10_ch), (14, none, 2, pr10_isAmpersand, fm10_isAmpersand), (30, none, 2, pr10_ch, fm10_ch), (40, none, 2, pr10_ch, fm10_ch)]
noncomputable def kb10_urlPiece : am_B := (kd10_urlPiece, am_as kf10, hn_ty, fun _ => none, fun _ => none, am_as ki10_urlPiece, fun _ => none, 5, 3, (some .int))
noncomputable def fn10_urlPiece_c80 (s : hs) (u0 : Int32) : Int32 × hs := ((1 : Int32), (hu_part s u0))
def wp10_urlPiece_c80 (s : hs) (u0 : Int32) : Prop := True
set_option maxRecDepth 100000 in
set_option maxHeartbeats 4000000 in
theorem rc10_urlPiece_80 (s : hs) (u0 : Int32) (j1 : Option am_V) (j2 : Option am_V) (g1 : am_loO 22 j1 = true) (g2 : am_loO 22 j2 = true) (hp : wp10_urlPiece_c80 s u0) : am_lf (am_mk kb10_urlPiece 0 0 22) [20, 48, 61, 80] (80, [some (.inr (.inl 0)), j1, j2], [.inl u0, .inr (.inl 0)], (hm_w s), 0, 0) = some (some (.inl ((fn10_urlPiece_c80 s u0).1)), (hm_w ((fn10_urlPiece_c80 s u0).2))) := by
  unfold wp10_urlPiece_c80 at hp
  refine am_lf_eq ?_
  generalize am_lf (am_mk kb10_urlPiece 0 0 22) [20, 48, 61, 80] = kt
  refine am_sp (w' := (hm_w (hu_part s u0))) (kp_R_0_part s u0) ?_
  have e : fn10_urlPiece_c80 s u0 = ((1 : Int32), (hu_part s u0)) := by
    rw [fn10_urlPiece_c80]
  rw [e] <;> rfl
noncomputable def fn10_urlPiece_c61 (s : hs) : Int32 × hs := (fn10_urlPiece_c80 s (2 : Int32))
def wp10_urlPiece_c61 (s : hs) : Prop := (wp10_urlPiece_c80 s (2 : Int32))
set_option maxRecDepth 100000 in
set_option maxHeartbeats 4000000 in
theorem rc10_urlPiece_61 (s : hs) (j1 : Option am_V) (j2 : Option am_V) (g1 : am_loO 22 j1 = true) (g2 : am_loO 22 j2 = true) (hp : wp10_urlPiece_c61 s) : am_lf (am_mk kb10_urlPiece 0 0 22) [20, 48, 61, 80] (61, [some (.inr (.inl 0)), j1, j2], [.inr (.inl 0)], (hm_w s), 0, 0) = some (some (.inl ((fn10_urlPiece_c61 s).1)), (hm_w ((fn10_urlPiece_c61 s).2))) := by
  unfold wp10_urlPiece_c61 at hp
  have i80 := @rc10_urlPiece_80
  refine am_lf_eq ?_
  generalize am_lf (am_mk kb10_urlPiece 0 0 22) [20, 48, 61, 80] = kt at i80 ⊢
  have e : fn10_urlPiece_c61 s = fn10_urlPiece_c80 s (2 : Int32) := by
    rw [fn10_urlPiece_c61]
  rw [e]
  exact i80 s (2 : Int32) _ _ g1 g2 hp
noncomputable def fn10_urlPiece_c48 (s : hs) (v2 : Int32) : Int32 × hs := (if v2 = (63 : Int32) then (fn10_urlPiece_c61 s) else (if v2 = (35 : Int32) then (fn10_urlPiece_c61 s) else (if (hm_part s) = 0 then (fn10_urlPiece_c80 s (1 : Int32)) else (fn10_urlPiece_c80 s (hm_part s)))))
def wp10_urlPiece_c48 (s : hs) (v2 : Int32) : Prop := ((v2 = (63 : Int32) → (wp10_urlPiece_c61 s)) ∧ (¬ v2 = (63 : Int32) → ((v2 = (35 : Int32) → (wp10_urlPiece_c61 s)) ∧ (¬ v2 = (35 : Int32) → (((hm_part s) = 0 → (wp10_urlPiece_c80 s (1 : Int32))) ∧ (¬ (hm_part s) = 0 → (wp10_urlPiece_c80 s (hm_part s))))))))
set_option maxRecDepth 100000 in
set_option maxHeartbeats 4000000 in
theorem rc10_urlPiece_48 (s : hs) (v2 : Int32) (j1 : Option am_V) (g1 : am_loO 22 j1 = true) (hp : wp10_urlPiece_c48 s v2) : am_lf (am_mk kb10_urlPiece 0 0 22) [20, 48, 61, 80] (48, [some (.inr (.inl 0)), j1, some (.inl v2)], [], (hm_w s), 0, 0) = some (some (.inl ((fn10_urlPiece_c48 s v2).1)), (hm_w ((fn10_urlPiece_c48 s v2).2))) := by
  unfold wp10_urlPiece_c48 at hp
  have i61 := @rc10_urlPiece_61
  have i80 := @rc10_urlPiece_80
  refine am_lf_eq ?_
  generalize am_lf (am_mk kb10_urlPiece 0 0 22) [20, 48, 61, 80] = kt at i61 i80 ⊢
  refine am_if (c := v2 = (63 : Int32)) (fun h1 => ?_) (fun h1 => ?_)
  · have q1 := hp.1 h1
    have e : fn10_urlPiece_c48 s v2 = fn10_urlPiece_c61 s := by
      rw [fn10_urlPiece_c48]
      rw [if_pos h1]
    rw [e]
    exact i61 s _ _ g1 rfl q1
  · have q1 := hp.2 h1
    refine am_if (c := v2 = (35 : Int32)) (fun h2 => ?_) (fun h2 => ?_)
    · have q2 := q1.1 h2
      have e : fn10_urlPiece_c48 s v2 = fn10_urlPiece_c61 s := by
        rw [fn10_urlPiece_c48]
        rw [if_neg h1, if_pos h2]
      rw [e]
      exact i61 s _ _ g1 rfl q2
    · have q2 := q1.2 h2
      refine am_if (c := (hm_part s) = 0) (fun h3 => ?_) (fun h3 => ?_)
      · have q3 := q2.1 h3
        have e : fn10_urlPiece_c48 s v2 = fn10_urlPiece_c80 s (1 : Int32) := by
          rw [fn10_urlPiece_c48]
          rw [if_neg h1, if_neg h2, if_pos h3]
        rw [e]
        exact i80 s (1 : Int32) _ _ g1 rfl q3
      · have q3 := q2.2 h3
        have e : fn10_urlPiece_c48 s v2 = fn10_urlPiece_c80 s (hm_part s) := by
          rw [fn10_urlPiece_c48]
          rw [if_neg h1, if_neg h2, if_neg h3]
        rw [e]
        exact i80 s (hm_part s) _ _ g1 rfl q3
noncomputable def fn10_urlPiece_c20 (s : hs) (v1 : Int32) (v2 : Int32) : Int32 × hs := (if v2 = (37 : Int32) then (if (fn10_ch s (v1 + (1 : Int32))) = 0 then ((0 : Int32), s) else (if (fn10_ch s (v1 + (2 : Int32))) = 0 then ((0 : Int32), s) else (fn10_urlPiece_c48 s v2))) else (fn10_urlPiece_c48 s v2))
def wp10_urlPiece_c20 (s : hs) (v1 : Int32) (v2 : Int32) : Prop := ((v2 = (37 : Int32) → ((wp10_ch s (v1 + (1 : Int32))) ∧ (((fn10_ch s (v1 + (1 : Int32))) = 0 → True) ∧ (¬ (fn10_ch s (v1 + (1 : Int32))) = 0 → ((wp10_ch s (v1 + (2 : Int32))) ∧ (((fn10_ch s (v1 + (2 : Int32))) = 0 → True) ∧ (¬ (fn10_ch s (v1 + (2 : Int32))) = 0 → (wp10_urlPiece_c48 s v2)))))))) ∧ (¬ v2 = (37 : Int32) → (wp10_urlPiece_c48 s v2)))
set_option maxRecDepth 100000 in
set_option maxHeartbeats 4000000 in
theorem rc10_urlPiece_20 (s : hs) (v1 : Int32) (v2 : Int32) (hp : wp10_urlPiece_c20 s v1 v2) : am_lf (am_mk kb10_urlPiece 0 0 22) [20, 48, 61, 80] (20, [some (.inr (.inl 0)), some (.inl v1), some (.inl v2)], [], (hm_w s), 0, 0) = some (some (.inl ((fn10_urlPiece_c20 s v1 v2).1)), (hm_w ((fn10_urlPiece_c20 s v1 v2).2))) := by
  unfold wp10_urlPiece_c20 at hp
  have i48 := @rc10_urlPiece_48
  refine am_lf_eq ?_
  generalize am_lf (am_mk kb10_urlPiece 0 0 22) [20, 48, 61, 80] = kt at i48 ⊢
  refine am_if (c := v2 = (37 : Int32)) (fun h1 => ?_) (fun h1 => ?_)
  · have q1 := hp.1 h1
    refine am_cx (pre := pr10_ch) (f := fm10_ch) (r := (some (.inl (fn10_ch s (v1 + (1 : Int32)))), (hm_w s), 0, 0)) ?_ ?_ ?_ ?_
    · exact ⟨s, (v1 + (1 : Int32)), rfl, rfl, q1.1⟩
    · exact fe10_ch s (v1 + (1 : Int32))
    · exact rfl
    refine am_if (c := (fn10_ch s (v1 + (1 : Int32))) = 0) (fun h2 => ?_) (fun h2 => ?_)
    · have e : fn10_urlPiece_c20 s v1 v2 = ((0 : Int32), s) := by
        rw [fn10_urlPiece_c20]
        rw [if_pos h1, if_pos h2]
      rw [e] <;> rfl
    · have q2 := q1.2.2 h2
      refine am_cx (pre := pr10_ch) (f := fm10_ch) (r := (some (.inl (fn10_ch s (v1 + (2 : Int32)))), (hm_w s), 0, 0)) ?_ ?_ ?_ ?_
      · exact ⟨s, (v1 + (2 : Int32)), rfl, rfl, q2.1⟩
      · exact fe10_ch s (v1 + (2 : Int32))
      · exact rfl
      refine am_if (c := (fn10_ch s (v1 + (2 : Int32))) = 0) (fun h3 => ?_) (fun h3 => ?_)
      · have e : fn10_urlPiece_c20 s v1 v2 = ((0 : Int32), s) := by
          rw [fn10_urlPiece_c20]
          rw [if_pos h1, if_neg h2, if_pos h3]
        rw [e] <;> rfl
      · have q3 := q2.2.2 h3
        have e : fn10_urlPiece_c20 s v1 v2 = fn10_urlPiece_c48 s v2 := by
          rw [fn10_urlPiece_c20]
          rw [if_pos h1, if_neg h2, if_neg h3]
        rw [e]
        exact i48 s v2 _ rfl q3
  · have q1 := hp.2 h1
    have e : fn10_urlPiece_c20 s v1 v2 = fn10_urlPiece_c48 s v2 := by
      rw [fn10_urlPiece_c20]
      rw [if_neg h1]
    rw [e]
    exact i48 s v2 _ rfl q1
noncomputable def fn10_urlPiece (s : hs) (p0 : Int32) : Int32 × hs := Classical.choose (⟨_, rfl⟩ : ∃ z : Int32 × hs, z = (if (fn10_ch s p0) = (38 : Int32) then (if (fn10_isAmpersand s p0) = 0 then ((0 : Int32), s) else (fn10_urlPiece_c20 s p0 (fn10_ch s p0))) else (fn10_urlPiece_c20 s p0 (fn10_ch s p0))))
theorem fq10_urlPiece (s : hs) (p0 : Int32) : fn10_urlPiece s p0 = (if (fn10_ch s p0) = (38 : Int32) then (if (fn10_isAmpersand s p0) = 0 then ((0 : Int32), s) else (fn10_urlPiece_c20 s p0 (fn10_ch s p0))) else (fn10_urlPiece_c20 s p0 (fn10_ch s p0))) := Classical.choose_spec (⟨_, rfl⟩ : ∃ z : Int32 × hs, z = (if (fn10_ch s p0) = (38 : Int32) then (if (fn10_isAmpersand s p0) = 0 then ((0 : Int32), s) else (fn10_urlPiece_c20 s p0 (fn10_ch s p0))) else (fn10_urlPiece_c20 s p0 (fn10_ch s p0))))
def wp10_urlPiece (s : hs) (p0 : Int32) : Prop := ((wp10_ch s p0) ∧ (((fn10_ch s p0) = (38 : Int32) → ((wp10_isAmpersand s p0) ∧ (((fn10_isAmpersand s p0) = 0 → True) ∧ (¬ (fn10_isAmpersand s p0) = 0 → (wp10_urlPiece_c20 s p0 (fn10_ch s p0)))))) ∧ (¬ (fn10_ch s p0) = (38 : Int32) → (wp10_urlPiece_c20 s p0 (fn10_ch s p0)))))
set_option maxRecDepth 100000 in
set_option maxHeartbeats 4000000 in
theorem re10_urlPiece (s : hs) (p0 : Int32) (hp : wp10_urlPiece s p0) : am_lf (am_mk kb10_urlPiece 0 0 22) [20, 48, 61, 80] (0, am_L0 [.inr (.inl 0), .inl p0] 3, [], (hm_w s), 0, 0) = some (some (.inl ((fn10_urlPiece s p0).1)), (hm_w ((fn10_urlPiece s p0).2))) := by
  unfold wp10_urlPiece at hp
  have i20 := @rc10_urlPiece_20
  refine am_lf_eq ?_
  generalize am_lf (am_mk kb10_urlPiece 0 0 22) [20, 48, 61, 80] = kt at i20 ⊢
  refine am_cx (pre := pr10_ch) (f := fm10_ch) (r := (some (.inl (fn10_ch s p0)), (hm_w s), 0, 0)) ?_ ?_ ?_ ?_
  · exact ⟨s, p0, rfl, rfl, hp.1⟩
  · exact fe10_ch s p0
  · exact rfl
  refine am_if (c := (fn10_ch s p0) = (38 : Int32)) (fun h1 => ?_) (fun h1 => ?_)
  · have q1 := hp.2.1 h1
    refine am_cx (pre := pr10_isAmpersand) (f := fm10_isAmpersand) (r := (some (.inl (fn10_isAmpersand s p0)), (hm_w s), 0, 0)) ?_ ?_ ?_ ?_
    · exact ⟨s, p0, rfl, rfl, q1.1⟩
    · exact fe10_isAmpersand s p0
    · exact rfl
    refine am_if (c := (fn10_isAmpersand s p0) = 0) (fun h2 => ?_) (fun h2 => ?_)
    · have e : fn10_urlPiece s p0 = ((0 : Int32), s) := by
        rw [fq10_urlPiece]
        rw [if_pos h1, if_pos h2]
      rw [e] <;> rfl
    · have q2 := q1.2.2 h2
      have e : fn10_urlPiece s p0 = fn10_urlPiece_c20 s p0 (fn10_ch s p0) := by
        rw [fq10_urlPiece]
        rw [if_pos h1, if_neg h2]
      rw [e]
      exact i20 s p0 (fn10_ch s p0)  q2
  · have q1 := hp.2.2 h1
    have e : fn10_urlPiece s p0 = fn10_urlPiece_c20 s p0 (fn10_ch s p0) := by
      rw [fq10_urlPiece]
      rw [if_neg h1]
    rw [e]
    exact i20 s p0 (fn10_ch s p0)  q1
abbrev pr10_urlPiece : List am_V → List am_C → Prop := fun a w => ∃ (s : hs) (p0 : Int32), a = [.inr (.inl 0), .inl p0] ∧ w = (hm_w s) ∧ wp10_urlPiece s p0
noncomputable def fm10_urlPiece : am_M := fun a w => (fun (z : Int32 × hs) => (some (.inl (z.1)), (hm_w (z.2)), 0, 0)) (fn10_urlPiece (hm_st w 0) (am_i (am_an a 1)))
theorem fe10_urlPiece (s : hs) (p0 : Int32) : fm10_urlPiece [.inr (.inl 0), .inl p0] (hm_w s) = (some (.inl ((fn10_urlPiece s p0).1)), (hm_w ((fn10_urlPiece s p0).2)), 0, 0) := rfl
set_option maxRecDepth 100000 in
set_option maxHeartbeats 4000000 in
theorem rn10_urlPiece : ∀ (a : List am_V) (w : List am_C), pr10_urlPiece a w → ∃ nq, am_ev (am_mk kb10_urlPiece (fm10_urlPiece a w).2.2.1 (fm10_urlPiece a w).2.2.2 w.length) [20, 48, 61, 80] nq (0, am_L0 a 3, [], w, 0, 0) = some ((fm10_urlPiece a w).1, (fm10_urlPiece a w).2.1) := by
  rintro a w ⟨s, p0, rfl, rfl, hp⟩
  rw [fe10_urlPiece s p0]
  exact am_lf_ev (re10_urlPiece s p0 hp)
theorem rl10_urlPiece : ∀ (a : List am_V) (w : List am_C), pr10_urlPiece a w → a.length ≤ 3 := by
  rintro a w ⟨s, p0, rfl, rfl, hp⟩
  exact Nat.le_of_ble_eq_true rfl
theorem pa10_urlPiece : ∀ a w, pr10_urlPiece a w → ∃ q a' ci fs r, a = .inr (.inl q) :: a' ∧ w[q]? = some (.inr (ci, fs)) ∧ hn_cl[ci]? = some r ∧ r.1 = hn_R10 := by
  rintro a w ⟨s, p0, rfl, rfl, hp⟩
  exact ⟨0, _, 10, _, _, rfl, rfl, rfl, rfl⟩
set_option maxRecDepth 100000 in
set_option maxHeartbeats 4000000 in
theorem km10_urlPiece {l : Launch} {E : (Nat → Prop) → State → Prop} {D : va_G} {ou : Nat → Nat} {ca : Nat → ClassId} (hE : am_EC E) : hg_Met l E D ou ca hy10_urlPiece prog_12_method_29_code 3 (some .int) 3 pr10_urlPiece fm10_urlPiece := by
  refine am_met (B := kb10_urlPiece) (cuts := [20, 48, 61, 80]) (nt := 5) (by decide +kernel) rfl rfl (hg_tys_ok ca) ?_ (by decide) rl10_urlPiece ?_ rn10_urlPiece
  · exact fun t ht => List.mem_cons_of_mem _ (hg_arr t ht)
  · intro a w hp ad p e R s m args below meth c hR X hEs hnm
    have hR1 : 3 ≤ R.frames ∧ 120 ≤ R.locals := by rw [hR]; exact ⟨Nat.le_refl _, Nat.le_refl _⟩
    refine ⟨kd10_urlPiece_ok, fun index ci fi mode hq => kf10_ok X.2.2.2.2.1 (index, ci, fi, mode) (am_as_mem hq), fun index ci fs hq => (am_no hq).elim, fun x v hq => (am_no hq).elim, ?_, fun o t n f hq => (am_no hq).elim, rfl, rfl, by rw [hR]; exact Nat.le_refl _, by rw [hR]; exact Nat.le_refl _⟩
    intro pc sel n0 pre0 f0 hq
    have hz : ∀ q ∈ ki10_urlPiece, am_CK p l e R s m args below meth c D hn_cl (va_A (am_w ad ou ca w) s.heap.size) ou ca 3 q.1 q.2.2.1 q.2.2.2.1 q.2.2.2.2 := by
      refine am_allc (am_ck_V (n := 1) X hEs hE (km10_ch hE) (hg_good (gw_mem 1147 (by decide +kernel))) rfl (List.mem_cons_of_mem _ (gw_mem 76 (by decide +kernel))) (List.mem_cons_of_mem _ (gw_mem 1144 (by decide +kernel))) (List.mem_cons_of_mem _ (gw_mem 1146 (by decide +kernel))) (List.mem_cons_of_mem _ (gw_mem 21 (by decide +kernel))) pa10_ch (by decide +kernel) ⟨Nat.le_trans (by decide) hR1.1, Nat.le_trans (by decide) hR1.2⟩ (kd10_urlPiece_ok (2, .invokevirtual 114, 3) (List.mem_of_getElem? (i := 2) rfl))) (am_allc (am_ck_V (n := 1) X hEs hE (km10_isAmpersand hE) (hg_good (gw_mem 1151 (by decide +kernel))) rfl (List.mem_cons_of_mem _ (gw_mem 76 (by decide +kernel))) (List.mem_cons_of_mem _ (gw_mem 1148 (by decide +kernel))) (List.mem_cons_of_mem _ (gw_mem 1150 (by decide +kernel))) (List.mem_cons_of_mem _ (gw_mem 22 (by decide +kernel))) pa10_isAmpersand (by decide +kernel) ⟨Nat.le_trans (by decide) hR1.1, Nat.le_trans (by decide) hR1.2⟩ (kd10_urlPiece_ok (14, .invokevirtual 143, 3) (List.mem_of_getElem? (i := 9) rfl))) (am_allc (am_ck_V (n := 1) X hEs hE (km10_ch hE) (hg_good (gw_mem 1147 (by decide +kernel))) rfl (List.mem_cons_of_mem _ (gw_mem 76 (by decide +kernel))) (List.mem_cons_of_mem _ (gw_mem 1144 (by decide +kernel))) (List.mem_cons_of_mem _ (gw_mem 1146 (by decide +kernel))) (List.mem_cons_of_mem _ (gw_mem 21 (by decide +kernel))) pa10_ch (by decide +kernel) ⟨Nat.le_trans (by decide) hR1.1, Nat.le_trans (by decide) hR1.2⟩ (kd10_urlPiece_ok (30, .invokevirtual 114, 3) (List.mem_of_getElem? (i := 18) rfl))) (am_allc (am_ck_V (n := 1) X hEs hE (km10_ch hE) (hg_good (gw_mem 1147 (by decide +kernel))) rfl (List.mem_cons_of_mem _ (gw_mem 76 (by decide +kernel))) (List.mem_cons_of_mem _ (gw_mem 1144 (by decide +kernel))) (List.mem_cons_of_mem _ (gw_mem 1146 (by decide +kernel))) (List.mem_cons_of_mem _ (gw_mem 21 (by decide +kernel))) pa10_ch (by decide +kernel) ⟨Nat.le_trans (by decide) hR1.1, Nat.le_trans (by decide) hR1.2⟩ (kd10_urlPiece_ok (40, .invokevirtual 114, 3) (List.mem_of_getElem? (i := 24) rfl))) (am_all0))))
    exact hz _ (am_as_mem hq)
