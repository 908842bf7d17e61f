noncomputable def ki10_putItem : List (Nat × Option (List Nat) × Nat × (List am_V → List am_C → Prop) × am_M) := [(26, none, 2, pr10_isOff, fm10_isOff), (42, none, 6, pr10_put5, fm10_put5), (57, none, 2, pr10_isRule, fm10_isRule), (73, none, 6, pr10_put5, fm10_put5), (79, none, 2, pr10_putQuote, fm10_putQuote), (113, none, 2, pr10_putPlain, fm10_putPlain), (131, none, 3, pr10_putUrl, fm10_putUrl), (149, none, 2, pr10_put, fm10_put), (172, none, 3, pr10_putCode, fm10_putCode), (183, none, 2, pr10_putQuote, fm10_putQuote)]
noncomputable def kb10_putItem : am_B := (kd10_putItem, am_as kf10, hn_ty, fun _ => none, fun _ => none, am_as ki10_putItem, fun _ => none, 5, 6, none)
noncomputable def fn10_putItem_c85 : Nat → hs → Int32 → Int32 → Int32 → Int32 → hs
  | 0, s, _, _, _, _ => s
  | fu + 1, s, v1, v2, v3, v4 => (if v3 ≤ v4 then (fn10_putQuote s v1) else (if (2 : Int32) ≤ v1 then (if (8 : Int32) ≤ v1 then (if (v1 - v1 / (16 : Int32) * (16 : Int32)) = (12 : Int32) then (fn10_putItem_c85 fu (fn10_put s ((hm_items s) ((((40 : Int32) * v2) + v4)).toNatClampNeg)) v1 v2 v3 (v4 + (1 : Int32))) else (if (v1 - v1 / (16 : Int32) * (16 : Int32)) ≤ (12 : Int32) then (fn10_putItem_c85 fu (fn10_putCode s ((hm_items s) ((((40 : Int32) * v2) + v4)).toNatClampNeg) (0 : Int32)) v1 v2 v3 (v4 + (1 : Int32))) else (fn10_putItem_c85 fu (fn10_putCode s ((hm_items s) ((((40 : Int32) * v2) + v4)).toNatClampNeg) (1 : Int32)) v1 v2 v3 (v4 + (1 : Int32))))) else (fn10_putItem_c85 fu (fn10_putUrl s ((hm_items s) ((((40 : Int32) * v2) + v4)).toNatClampNeg) (v1 - (2 : Int32))) v1 v2 v3 (v4 + (1 : Int32)))) else (fn10_putItem_c85 fu (fn10_putPlain s ((hm_items s) ((((40 : Int32) * v2) + v4)).toNatClampNeg)) v1 v2 v3 (v4 + (1 : Int32)))))
def wp10_putItem_c85 : Nat → hs → Int32 → Int32 → Int32 → Int32 → Prop
  | 0, _, _, _, _, _ => False
  | fu + 1, s, v1, v2, v3, v4 => ((v3 ≤ v4 → (wp10_putQuote s v1)) ∧ (¬ v3 ≤ v4 → (am_inb (((40 : Int32) * v2) + v4) 1280 = true ∧ (((2 : Int32) ≤ v1 → (((8 : Int32) ≤ v1 → (((v1 - v1 / (16 : Int32) * (16 : Int32)) = (12 : Int32) → ((wp10_put s ((hm_items s) ((((40 : Int32) * v2) + v4)).toNatClampNeg)) ∧ (wp10_putItem_c85 fu (fn10_put s ((hm_items s) ((((40 : Int32) * v2) + v4)).toNatClampNeg)) v1 v2 v3 (v4 + (1 : Int32))))) ∧ (¬ (v1 - v1 / (16 : Int32) * (16 : Int32)) = (12 : Int32) → (((v1 - v1 / (16 : Int32) * (16 : Int32)) ≤ (12 : Int32) → ((wp10_putCode s ((hm_items s) ((((40 : Int32) * v2) + v4)).toNatClampNeg) (0 : Int32)) ∧ (wp10_putItem_c85 fu (fn10_putCode s ((hm_items s) ((((40 : Int32) * v2) + v4)).toNatClampNeg) (0 : Int32)) v1 v2 v3 (v4 + (1 : Int32))))) ∧ (¬ (v1 - v1 / (16 : Int32) * (16 : Int32)) ≤ (12 : Int32) → ((wp10_putCode s ((hm_items s) ((((40 : Int32) * v2) + v4)).toNatClampNeg) (1 : Int32)) ∧ (wp10_putItem_c85 fu (fn10_putCode s ((hm_items s) ((((40 : Int32) * v2) + v4)).toNatClampNeg) (1 : Int32)) v1 v2 v3 (v4 + (1 : Int32))))))))) ∧ (¬ (8 : Int32) ≤ v1 → ((wp10_putUrl s ((hm_items s) ((((40 : Int32) * v2) + v4)).toNatClampNeg) (v1 - (2 : Int32))) ∧ (wp10_putItem_c85 fu (fn10_putUrl s ((hm_items s) ((((40 : Int32) * v2) + v4)).toNatClampNeg) (v1 - (2 : Int32))) v1 v2 v3 (v4 + (1 : Int32))))))) ∧ (¬ (2 : Int32) ≤ v1 → ((wp10_putPlain s ((hm_items s) ((((40 : Int32) * v2) + v4)).toNatClampNeg)) ∧ (wp10_putItem_c85 fu (fn10_putPlain s ((hm_items s) ((((40 : Int32) * v2) + v4)).toNatClampNeg)) v1 v2 v3 (v4 + (1 : Int32)))))))))
set_option maxRecDepth 100000 in
set_option maxHeartbeats 4000000 in
theorem rc10_putItem_85 : ∀ (fu : Nat) (s : hs) (v1 : Int32) (v2 : Int32) (v3 : Int32) (v4 : Int32) (j5 : Option am_V) (g5 : am_loO 22 j5 = true) , wp10_putItem_c85 fu s v1 v2 v3 v4 → am_lf (am_mk kb10_putItem 0 0 22) [14, 46, 77, 82, 85] (85, [some (.inr (.inl 0)), some (.inl v1), some (.inl v2), some (.inl v3), some (.inl v4), j5], [], (hm_w s), 0, 0) = some (none, (hm_w (fn10_putItem_c85 fu s v1 v2 v3 v4))) := by
  intro fu
  induction fu with
  | zero =>
    intro s v1 v2 v3 v4 j5 g5 hp
    exact hp.elim
  | succ fu ih =>
    intro s v1 v2 v3 v4 j5 g5 hp
    unfold wp10_putItem_c85 at hp
    refine am_lf_eq ?_
    generalize am_lf (am_mk kb10_putItem 0 0 22) [14, 46, 77, 82, 85] = kt at ih ⊢
    refine am_if (c := v3 ≤ v4) (fun h2 => ?_) (fun h2 => ?_)
    · have q2 := hp.1 h2
      refine am_cx (pre := pr10_putQuote) (f := fm10_putQuote) (r := (none, (hm_w (fn10_putQuote s v1)), 0, 0)) ?_ ?_ ?_ ?_
      · exact ⟨s, v1, rfl, rfl, q2⟩
      · exact fe10_putQuote s v1
      · exact (am_ac rfl (am_ac rfl (am_ac rfl (am_ac rfl (am_ac rfl (am_ac g5 am_a0))))))
      have e : fn10_putItem_c85 (fu + 1) s v1 v2 v3 v4 = (fn10_putQuote s v1) := by
        rw [fn10_putItem_c85]
        rw [if_pos h2]
      rw [e] <;> rfl
    · have q2 := hp.2 h2
      refine am_ci (c := am_inb (((40 : Int32) * v2) + v4) 1280 = true) q2.1 ?_
      refine am_if (c := (2 : Int32) ≤ v1) (fun h3 => ?_) (fun h3 => ?_)
      · have q3 := q2.2.1 h3
        refine am_if (c := (8 : Int32) ≤ v1) (fun h4 => ?_) (fun h4 => ?_)
        · have q4 := q3.1 h4
          refine am_if (c := (v1 - v1 / (16 : Int32) * (16 : Int32)) = (12 : Int32)) (fun h5 => ?_) (fun h5 => ?_)
          · have q5 := q4.1 h5
            refine am_cx (pre := pr10_put) (f := fm10_put) (r := (none, (hm_w (fn10_put s ((hm_items s) ((((40 : Int32) * v2) + v4)).toNatClampNeg))), 0, 0)) ?_ ?_ ?_ ?_
            · exact ⟨s, ((hm_items s) ((((40 : Int32) * v2) + v4)).toNatClampNeg), rfl, rfl, q5.1⟩
            · exact fe10_put s ((hm_items s) ((((40 : Int32) * v2) + v4)).toNatClampNeg)
            · exact rfl
            have e : fn10_putItem_c85 (fu + 1) s v1 v2 v3 v4 = fn10_putItem_c85 fu (fn10_put s ((hm_items s) ((((40 : Int32) * v2) + v4)).toNatClampNeg)) v1 v2 v3 (v4 + (1 : Int32)) := by
              rw [fn10_putItem_c85]
              rw [if_neg h2, if_pos h3, if_pos h4, if_pos h5]
            rw [e]
            exact ih (fn10_put s ((hm_items s) ((((40 : Int32) * v2) + v4)).toNatClampNeg)) v1 v2 v3 (v4 + (1 : Int32)) _ rfl q5.2
          · have q5 := q4.2 h5
            refine am_if (c := (v1 - v1 / (16 : Int32) * (16 : Int32)) ≤ (12 : Int32)) (fun h6 => ?_) (fun h6 => ?_)
            · have q6 := q5.1 h6
              refine am_cx (pre := pr10_putCode) (f := fm10_putCode) (r := (none, (hm_w (fn10_putCode s ((hm_items s) ((((40 : Int32) * v2) + v4)).toNatClampNeg) (0 : Int32))), 0, 0)) ?_ ?_ ?_ ?_
              · exact ⟨s, ((hm_items s) ((((40 : Int32) * v2) + v4)).toNatClampNeg), (0 : Int32), rfl, rfl, q6.1⟩
              · exact fe10_putCode s ((hm_items s) ((((40 : Int32) * v2) + v4)).toNatClampNeg) (0 : Int32)
              · exact rfl
              have e : fn10_putItem_c85 (fu + 1) s v1 v2 v3 v4 = fn10_putItem_c85 fu (fn10_putCode s ((hm_items s) ((((40 : Int32) * v2) + v4)).toNatClampNeg) (0 : Int32)) v1 v2 v3 (v4 + (1 : Int32)) := by
                rw [fn10_putItem_c85]
                rw [if_neg h2, if_pos h3, if_pos h4, if_neg h5, if_pos h6]
              rw [e]
              exact ih (fn10_putCode s ((hm_items s) ((((40 : Int32) * v2) + v4)).toNatClampNeg) (0 : Int32)) v1 v2 v3 (v4 + (1 : Int32)) _ rfl q6.2
            · have q6 := q5.2 h6
              refine am_cx (pre := pr10_putCode) (f := fm10_putCode) (r := (none, (hm_w (fn10_putCode s ((hm_items s) ((((40 : Int32) * v2) + v4)).toNatClampNeg) (1 : Int32))), 0, 0)) ?_ ?_ ?_ ?_
              · exact ⟨s, ((hm_items s) ((((40 : Int32) * v2) + v4)).toNatClampNeg), (1 : Int32), rfl, rfl, q6.1⟩
              · exact fe10_putCode s ((hm_items s) ((((40 : Int32) * v2) + v4)).toNatClampNeg) (1 : Int32)
              · exact rfl
              have e : fn10_putItem_c85 (fu + 1) s v1 v2 v3 v4 = fn10_putItem_c85 fu (fn10_putCode s ((hm_items s) ((((40 : Int32) * v2) + v4)).toNatClampNeg) (1 : Int32)) v1 v2 v3 (v4 + (1 : Int32)) := by
                rw [fn10_putItem_c85]
                rw [if_neg h2, if_pos h3, if_pos h4, if_neg h5, if_neg h6]
              rw [e]
              exact ih (fn10_putCode s ((hm_items s) ((((40 : Int32) * v2) + v4)).toNatClampNeg) (1 : Int32)) v1 v2 v3 (v4 + (1 : Int32)) _ rfl q6.2
        · have q4 := q3.2 h4
          refine am_cx (pre := pr10_putUrl) (f := fm10_putUrl) (r := (none, (hm_w (fn10_putUrl s ((hm_items s) ((((40 : Int32) * v2) + v4)).toNatClampNeg) (v1 - (2 : Int32)))), 0, 0)) ?_ ?_ ?_ ?_
          · exact ⟨s, ((hm_items s) ((((40 : Int32) * v2) + v4)).toNatClampNeg), (v1 - (2 : Int32)), rfl, rfl, q4.1⟩
          · exact fe10_putUrl s ((hm_items s) ((((40 : Int32) * v2) + v4)).toNatClampNeg) (v1 - (2 : Int32))
          · exact rfl
          have e : fn10_putItem_c85 (fu + 1) s v1 v2 v3 v4 = fn10_putItem_c85 fu (fn10_putUrl s ((hm_items s) ((((40 : Int32) * v2) + v4)).toNatClampNeg) (v1 - (2 : Int32))) v1 v2 v3 (v4 + (1 : Int32)) := by
            rw [fn10_putItem_c85]
            rw [if_neg h2, if_pos h3, if_neg h4]
          rw [e]
          exact ih (fn10_putUrl s ((hm_items s) ((((40 : Int32) * v2) + v4)).toNatClampNeg) (v1 - (2 : Int32))) v1 v2 v3 (v4 + (1 : Int32)) _ rfl q4.2
      · have q3 := q2.2.2 h3
        refine am_cx (pre := pr10_putPlain) (f := fm10_putPlain) (r := (none, (hm_w (fn10_putPlain s ((hm_items s) ((((40 : Int32) * v2) + v4)).toNatClampNeg))), 0, 0)) ?_ ?_ ?_ ?_
        · exact ⟨s, ((hm_items s) ((((40 : Int32) * v2) + v4)).toNatClampNeg), rfl, rfl, q3.1⟩
        · exact fe10_putPlain s ((hm_items s) ((((40 : Int32) * v2) + v4)).toNatClampNeg)
        · exact rfl
        have e : fn10_putItem_c85 (fu + 1) s v1 v2 v3 v4 = fn10_putItem_c85 fu (fn10_putPlain s ((hm_items s) ((((40 : Int32) * v2) + v4)).toNatClampNeg)) v1 v2 v3 (v4 + (1 : Int32)) := by
          rw [fn10_putItem_c85]
          rw [if_neg h2, if_neg h3]
        rw [e]
        exact ih (fn10_putPlain s ((hm_items s) ((((40 : Int32) * v2) + v4)).toNatClampNeg)) v1 v2 v3 (v4 + (1 : Int32)) _ rfl q3.2
noncomputable def fn10_putItem_c82 (s : hs) (v1 : Int32) (v2 : Int32) (v3 : Int32) : hs := (fn10_putItem_c85 hg_fu s v1 v2 v3 (0 : Int32))
def wp10_putItem_c82 (s : hs) (v1 : Int32) (v2 : Int32) (v3 : Int32) : Prop := (wp10_putItem_c85 hg_fu s v1 v2 v3 (0 : Int32))
set_option maxRecDepth 100000 in
set_option maxHeartbeats 4000000 in
theorem rc10_putItem_82 (s : hs) (v1 : Int32) (v2 : Int32) (v3 : Int32) (j4 : Option am_V) (j5 : Option am_V) (g4 : am_loO 22 j4 = true) (g5 : am_loO 22 j5 = true) (hp : wp10_putItem_c82 s v1 v2 v3) : am_lf (am_mk kb10_putItem 0 0 22) [14, 46, 77, 82, 85] (82, [some (.inr (.inl 0)), some (.inl v1), some (.inl v2), some (.inl v3), j4, j5], [], (hm_w s), 0, 0) = some (none, (hm_w (fn10_putItem_c82 s v1 v2 v3))) := by
  unfold wp10_putItem_c82 at hp
  have i85 := @rc10_putItem_85
  refine am_lf_eq ?_
  generalize am_lf (am_mk kb10_putItem 0 0 22) [14, 46, 77, 82, 85] = kt at i85 ⊢
  have e : fn10_putItem_c82 s v1 v2 v3 = fn10_putItem_c85 hg_fu s v1 v2 v3 (0 : Int32) := by
    rw [fn10_putItem_c82]
  rw [e]
  exact i85 hg_fu s v1 v2 v3 (0 : Int32) _ g5 hp
noncomputable def fn10_putItem_c77 (s : hs) (v1 : Int32) (v2 : Int32) (v3 : Int32) : hs := (fn10_putItem_c82 (fn10_putQuote s v1) v1 v2 v3)
def wp10_putItem_c77 (s : hs) (v1 : Int32) (v2 : Int32) (v3 : Int32) : Prop := ((wp10_putQuote s v1) ∧ (wp10_putItem_c82 (fn10_putQuote s v1) v1 v2 v3))
set_option maxRecDepth 100000 in
set_option maxHeartbeats 4000000 in
theorem rc10_putItem_77 (s : hs) (v1 : Int32) (v2 : Int32) (v3 : Int32) (j4 : Option am_V) (j5 : Option am_V) (g4 : am_loO 22 j4 = true) (g5 : am_loO 22 j5 = true) (hp : wp10_putItem_c77 s v1 v2 v3) : am_lf (am_mk kb10_putItem 0 0 22) [14, 46, 77, 82, 85] (77, [some (.inr (.inl 0)), some (.inl v1), some (.inl v2), some (.inl v3), j4, j5], [], (hm_w s), 0, 0) = some (none, (hm_w (fn10_putItem_c77 s v1 v2 v3))) := by
  unfold wp10_putItem_c77 at hp
  have i82 := @rc10_putItem_82
  refine am_lf_eq ?_
  generalize am_lf (am_mk kb10_putItem 0 0 22) [14, 46, 77, 82, 85] = kt at i82 ⊢
  refine am_cx (pre := pr10_putQuote) (f := fm10_putQuote) (r := (none, (hm_w (fn10_putQuote s v1)), 0, 0)) ?_ ?_ ?_ ?_
  · exact ⟨s, v1, rfl, rfl, hp.1⟩
  · exact fe10_putQuote s v1
  · exact (am_ac rfl (am_ac rfl (am_ac rfl (am_ac rfl (am_ac g4 (am_ac g5 am_a0))))))
  have e : fn10_putItem_c77 s v1 v2 v3 = fn10_putItem_c82 (fn10_putQuote s v1) v1 v2 v3 := by
    rw [fn10_putItem_c77]
  rw [e]
  exact i82 (fn10_putQuote s v1) v1 v2 v3 _ _ g4 g5 hp.2
noncomputable def fn10_putItem_c46 (s : hs) (v1 : Int32) (v2 : Int32) (v3 : Int32) : hs := (if (v1 - v1 / (16 : Int32) * (16 : Int32)) = (12 : Int32) then (if (fn10_isRule s v2) = 0 then (fn10_put5 s (110 : Int32) (111 : Int32) (110 : Int32) (101 : Int32) (0 : Int32)) else (fn10_putItem_c77 s v1 v2 v3)) else (fn10_putItem_c77 s v1 v2 v3))
def wp10_putItem_c46 (s : hs) (v1 : Int32) (v2 : Int32) (v3 : Int32) : Prop := (((v1 - v1 / (16 : Int32) * (16 : Int32)) = (12 : Int32) → ((wp10_isRule s v2) ∧ (((fn10_isRule s v2) = 0 → (wp10_put5 s (110 : Int32) (111 : Int32) (110 : Int32) (101 : Int32) (0 : Int32))) ∧ (¬ (fn10_isRule s v2) = 0 → (wp10_putItem_c77 s v1 v2 v3))))) ∧ (¬ (v1 - v1 / (16 : Int32) * (16 : Int32)) = (12 : Int32) → (wp10_putItem_c77 s v1 v2 v3)))
set_option maxRecDepth 100000 in
set_option maxHeartbeats 4000000 in
theorem rc10_putItem_46 (s : hs) (v1 : Int32) (v2 : Int32) (v3 : Int32) (j4 : Option am_V) (j5 : Option am_V) (g4 : am_loO 22 j4 = true) (g5 : am_loO 22 j5 = true) (hp : wp10_putItem_c46 s v1 v2 v3) : am_lf (am_mk kb10_putItem 0 0 22) [14, 46, 77, 82, 85] (46, [some (.inr (.inl 0)), some (.inl v1), some (.inl v2), some (.inl v3), j4, j5], [], (hm_w s), 0, 0) = some (none, (hm_w (fn10_putItem_c46 s v1 v2 v3))) := by
  unfold wp10_putItem_c46 at hp
  have i77 := @rc10_putItem_77
  refine am_lf_eq ?_
  generalize am_lf (am_mk kb10_putItem 0 0 22) [14, 46, 77, 82, 85] = kt at i77 ⊢
  refine am_if (c := (v1 - v1 / (16 : Int32) * (16 : Int32)) = (12 : Int32)) (fun h1 => ?_) (fun h1 => ?_)
  · have q1 := hp.1 h1
    refine am_cx (pre := pr10_isRule) (f := fm10_isRule) (r := (some (.inl (fn10_isRule s v2)), (hm_w s), 0, 0)) ?_ ?_ ?_ ?_
    · exact ⟨s, v2, rfl, rfl, q1.1⟩
    · exact fe10_isRule s v2
    · exact (am_ac rfl (am_ac rfl (am_ac rfl (am_ac rfl (am_ac g4 (am_ac g5 am_a0))))))
    refine am_if (c := (fn10_isRule s v2) = 0) (fun h2 => ?_) (fun h2 => ?_)
    · have q2 := q1.2.1 h2
      refine am_cx (pre := pr10_put5) (f := fm10_put5) (r := (none, (hm_w (fn10_put5 s (110 : Int32) (111 : Int32) (110 : Int32) (101 : Int32) (0 : Int32))), 0, 0)) ?_ ?_ ?_ ?_
      · exact ⟨s, (110 : Int32), (111 : Int32), (110 : Int32), (101 : Int32), (0 : Int32), rfl, rfl, q2⟩
      · exact fe10_put5 s (110 : Int32) (111 : Int32) (110 : Int32) (101 : Int32) (0 : Int32)
      · exact (am_ac rfl (am_ac rfl (am_ac rfl (am_ac rfl (am_ac g4 (am_ac g5 am_a0))))))
      have e : fn10_putItem_c46 s v1 v2 v3 = (fn10_put5 s (110 : Int32) (111 : Int32) (110 : Int32) (101 : Int32) (0 : Int32)) := by
        rw [fn10_putItem_c46]
        rw [if_pos h1, if_pos h2]
      rw [e] <;> rfl
    · have q2 := q1.2.2 h2
      have e : fn10_putItem_c46 s v1 v2 v3 = fn10_putItem_c77 s v1 v2 v3 := by
        rw [fn10_putItem_c46]
        rw [if_pos h1, if_neg h2]
      rw [e]
      exact i77 s v1 v2 v3 _ _ g4 g5 q2
  · have q1 := hp.2 h1
    have e : fn10_putItem_c46 s v1 v2 v3 = fn10_putItem_c77 s v1 v2 v3 := by
      rw [fn10_putItem_c46]
      rw [if_neg h1]
    rw [e]
    exact i77 s v1 v2 v3 _ _ g4 g5 q1
noncomputable def fn10_putItem_c14 (s : hs) (v1 : Int32) (v2 : Int32) (u0 : Int32) : hs := (if v1 = (2 : Int32) then (if v2 < 0 then (fn10_putItem_c46 s v1 v2 u0) else (if (fn10_isOff s v2) = 0 then (fn10_putItem_c46 s v1 v2 u0) else (fn10_put5 s (35 : Int32) (111 : Int32) (102 : Int32) (102 : Int32) (0 : Int32)))) else (fn10_putItem_c46 s v1 v2 u0))
def wp10_putItem_c14 (s : hs) (v1 : Int32) (v2 : Int32) (u0 : Int32) : Prop := ((v1 = (2 : Int32) → ((v2 < 0 → (wp10_putItem_c46 s v1 v2 u0)) ∧ (¬ v2 < 0 → ((wp10_isOff s v2) ∧ (((fn10_isOff s v2) = 0 → (wp10_putItem_c46 s v1 v2 u0)) ∧ (¬ (fn10_isOff s v2) = 0 → (wp10_put5 s (35 : Int32) (111 : Int32) (102 : Int32) (102 : Int32) (0 : Int32)))))))) ∧ (¬ v1 = (2 : Int32) → (wp10_putItem_c46 s v1 v2 u0)))
set_option maxRecDepth 100000 in
set_option maxHeartbeats 4000000 in
theorem rc10_putItem_14 (s : hs) (v1 : Int32) (v2 : Int32) (u0 : Int32) (j3 : Option am_V) (j4 : Option am_V) (j5 : Option am_V) (g3 : am_loO 22 j3 = true) (g4 : am_loO 22 j4 = true) (g5 : am_loO 22 j5 = true) (hp : wp10_putItem_c14 s v1 v2 u0) : am_lf (am_mk kb10_putItem 0 0 22) [14, 46, 77, 82, 85] (14, [some (.inr (.inl 0)), some (.inl v1), some (.inl v2), j3, j4, j5], [.inl u0], (hm_w s), 0, 0) = some (none, (hm_w (fn10_putItem_c14 s v1 v2 u0))) := by
  unfold wp10_putItem_c14 at hp
  have i46 := @rc10_putItem_46
  refine am_lf_eq ?_
  generalize am_lf (am_mk kb10_putItem 0 0 22) [14, 46, 77, 82, 85] = kt at i46 ⊢
  refine am_if (c := v1 = (2 : Int32)) (fun h1 => ?_) (fun h1 => ?_)
  · have q1 := hp.1 h1
    refine am_if (c := v2 < 0) (fun h2 => ?_) (fun h2 => ?_)
    · have q2 := q1.1 h2
      have e : fn10_putItem_c14 s v1 v2 u0 = fn10_putItem_c46 s v1 v2 u0 := by
        rw [fn10_putItem_c14]
        rw [if_pos h1, if_pos h2]
      rw [e]
      exact i46 s v1 v2 u0 _ _ g4 g5 q2
    · have q2 := q1.2 h2
      refine am_cx (pre := pr10_isOff) (f := fm10_isOff) (r := (some (.inl (fn10_isOff s v2)), (hm_w s), 0, 0)) ?_ ?_ ?_ ?_
      · exact ⟨s, v2, rfl, rfl, q2.1⟩
      · exact fe10_isOff s v2
      · exact (am_ac rfl (am_ac rfl (am_ac rfl (am_ac rfl (am_ac g4 (am_ac g5 am_a0))))))
      refine am_if (c := (fn10_isOff s v2) = 0) (fun h3 => ?_) (fun h3 => ?_)
      · have q3 := q2.2.1 h3
        have e : fn10_putItem_c14 s v1 v2 u0 = fn10_putItem_c46 s v1 v2 u0 := by
          rw [fn10_putItem_c14]
          rw [if_pos h1, if_neg h2, if_pos h3]
        rw [e]
        exact i46 s v1 v2 u0 _ _ g4 g5 q3
      · have q3 := q2.2.2 h3
        refine am_cx (pre := pr10_put5) (f := fm10_put5) (r := (none, (hm_w (fn10_put5 s (35 : Int32) (111 : Int32) (102 : Int32) (102 : Int32) (0 : Int32))), 0, 0)) ?_ ?_ ?_ ?_
        · exact ⟨s, (35 : Int32), (111 : Int32), (102 : Int32), (102 : Int32), (0 : Int32), rfl, rfl, q3⟩
        · exact fe10_put5 s (35 : Int32) (111 : Int32) (102 : Int32) (102 : Int32) (0 : Int32)
        · exact (am_ac rfl (am_ac rfl (am_ac rfl (am_ac rfl (am_ac g4 (am_ac g5 am_a0))))))
        have e : fn10_putItem_c14 s v1 v2 u0 = (fn10_put5 s (35 : Int32) (111 : Int32) (102 : Int32) (102 : Int32) (0 : Int32)) := by
          rw [fn10_putItem_c14]
          rw [if_pos h1, if_neg h2, if_neg h3]
        rw [e] <;> rfl
  · have q1 := hp.2 h1
    have e : fn10_putItem_c14 s v1 v2 u0 = fn10_putItem_c46 s v1 v2 u0 := by
      rw [fn10_putItem_c14]
      rw [if_neg h1]
    rw [e]
    exact i46 s v1 v2 u0 _ _ g4 g5 q1
noncomputable def fn10_putItem (s : hs) (p0 : Int32) (p1 : Int32) : hs := Classical.choose (⟨_, rfl⟩ : ∃ z : hs, z = (if 0 ≤ p1 then (fn10_putItem_c14 s p0 p1 ((hm_lengths s) (p1).toNatClampNeg)) else (fn10_putItem_c14 s p0 p1 (0 : Int32))))
theorem fq10_putItem (s : hs) (p0 : Int32) (p1 : Int32) : fn10_putItem s p0 p1 = (if 0 ≤ p1 then (fn10_putItem_c14 s p0 p1 ((hm_lengths s) (p1).toNatClampNeg)) else (fn10_putItem_c14 s p0 p1 (0 : Int32))) := Classical.choose_spec (⟨_, rfl⟩ : ∃ z : hs, z = (if 0 ≤ p1 then (fn10_putItem_c14 s p0 p1 ((hm_lengths s) (p1).toNatClampNeg)) else (fn10_putItem_c14 s p0 p1 (0 : Int32))))
def wp10_putItem (s : hs) (p0 : Int32) (p1 : Int32) : Prop := ((0 ≤ p1 → (am_inb p1 32 = true ∧ (wp10_putItem_c14 s p0 p1 ((hm_lengths s) (p1).toNatClampNeg)))) ∧ (¬ 0 ≤ p1 → (wp10_putItem_c14 s p0 p1 (0 : Int32))))
set_option maxRecDepth 100000 in
set_option maxHeartbeats 4000000 in
theorem re10_putItem (s : hs) (p0 : Int32) (p1 : Int32) (hp : wp10_putItem s p0 p1) : am_lf (am_mk kb10_putItem 0 0 22) [14, 46, 77, 82, 85] (0, am_L0 [.inr (.inl 0), .inl p0, .inl p1] 6, [], (hm_w s), 0, 0) = some (none, (hm_w (fn10_putItem s p0 p1))) := by
  unfold wp10_putItem at hp
  have i14 := @rc10_putItem_14
  refine am_lf_eq ?_
  generalize am_lf (am_mk kb10_putItem 0 0 22) [14, 46, 77, 82, 85] = kt at i14 ⊢
  refine am_if (c := 0 ≤ p1) (fun h1 => ?_) (fun h1 => ?_)
  · have q1 := hp.1 h1
    refine am_ci (c := am_inb p1 32 = true) q1.1 ?_
    have e : fn10_putItem s p0 p1 = fn10_putItem_c14 s p0 p1 ((hm_lengths s) (p1).toNatClampNeg) := by
      rw [fq10_putItem]
      rw [if_pos h1]
    rw [e]
    exact i14 s p0 p1 ((hm_lengths s) (p1).toNatClampNeg) _ _ _ rfl rfl rfl q1.2
  · have q1 := hp.2 h1
    have e : fn10_putItem s p0 p1 = fn10_putItem_c14 s p0 p1 (0 : Int32) := by
      rw [fq10_putItem]
      rw [if_neg h1]
    rw [e]
    exact i14 s p0 p1 (0 : Int32) _ _ _ rfl rfl rfl q1
abbrev pr10_putItem : List am_V → List am_C → Prop := fun a w => ∃ (s : hs) (p0 : Int32) (p1 : Int32), a = [.inr (.inl 0), .inl p0, .inl p1] ∧ w = (hm_w s) ∧ wp10_putItem s p0 p1
noncomputable def fm10_putItem : am_M := fun a w => (fun (z : hs) => (none, (hm_w z), 0, 0)) (fn10_putItem (hm_st w 0) (am_i (am_an a 1)) (am_i (am_an a 2)))
theorem fe10_putItem (s : hs) (p0 : Int32) (p1 : Int32) : fm10_putItem [.inr (.inl 0), .inl p0, .inl p1] (hm_w s) = (none, (hm_w (fn10_putItem s p0 p1)), 0, 0) := rfl
set_option maxRecDepth 100000 in
set_option maxHeartbeats 4000000 in
theorem rn10_putItem : ∀ (a : List am_V) (w : List am_C), pr10_putItem a w → ∃ nq, am_ev (am_mk kb10_putItem (fm10_putItem a w).2.2.1 (fm10_putItem a w).2.2.2 w.length) [14, 46, 77, 82, 85] nq (0, am_L0 a 6, [], w, 0, 0) = some ((fm10_putItem a w).1, (fm10_putItem a w).2.1) := by
  rintro a w ⟨s, p0, p1, rfl, rfl, hp⟩
  rw [fe10_putItem s p0 p1]
  exact am_lf_ev (re10_putItem s p0 p1 hp)
theorem rl10_putItem : ∀ (a : List am_V) (w : List am_C), pr10_putItem a w → a.length ≤ 6 := by
  rintro a w ⟨s, p0, p1, rfl, rfl, hp⟩
  exact Nat.le_of_ble_eq_true rfl
theorem pa10_putItem : ∀ a w, pr10_putItem a w → ∃ q a' ci fs r, a = .inr (.inl q) :: a' ∧ w[q]? = some (.inr (ci, fs)) ∧ hn_cl[ci]? = some r ∧ r.1 = hn_R10 := by
  rintro a w ⟨s, p0, p1, rfl, rfl, hp⟩
  exact ⟨0, _, 10, _, _, rfl, rfl, rfl, rfl⟩
set_option maxRecDepth 100000 in
set_option maxHeartbeats 4000000 in
theorem km10_putItem {l : Launch} {E : (Nat → Prop) → State → Prop} {D : va_G} {ou : Nat → Nat} {ca : Nat → ClassId} (hE : am_EC E) : hg_Met l E D ou ca hy10_putItem prog_12_method_68_code 6 none 4 pr10_putItem fm10_putItem := by
  refine am_met (B := kb10_putItem) (cuts := [14, 46, 77, 82, 85]) (nt := 5) (by decide +kernel) rfl rfl (hg_tys_ok ca) ?_ (by decide) rl10_putItem ?_ rn10_putItem
  · exact fun t ht => List.mem_cons_of_mem _ (hg_arr t ht)
  · intro a w hp ad p e R s m args below meth c hR X hEs hnm
    have hR1 : 4 ≤ R.frames ∧ 160 ≤ R.locals := by rw [hR]; exact ⟨Nat.le_refl _, Nat.le_refl _⟩
    refine ⟨kd10_putItem_ok, fun index ci fi mode hq => kf10_ok X.2.2.2.2.1 (index, ci, fi, mode) (am_as_mem hq), fun index ci fs hq => (am_no hq).elim, fun x v hq => (am_no hq).elim, ?_, fun o t n f hq => (am_no hq).elim, rfl, rfl, by rw [hR]; exact Nat.le_refl _, by rw [hR]; exact Nat.le_refl _⟩
    intro pc sel n0 pre0 f0 hq
    have hz : ∀ q ∈ ki10_putItem, am_CK p l e R s m args below meth c D hn_cl (va_A (am_w ad ou ca w) s.heap.size) ou ca 6 q.1 q.2.2.1 q.2.2.2.1 q.2.2.2.2 := by
      refine am_allc (am_ck_V (n := 1) X hEs hE (km10_isOff hE) (hg_good (gw_mem 1308 (by decide +kernel))) rfl (List.mem_cons_of_mem _ (gw_mem 76 (by decide +kernel))) (List.mem_cons_of_mem _ (gw_mem 1305 (by decide +kernel))) (List.mem_cons_of_mem _ (gw_mem 1307 (by decide +kernel))) (List.mem_cons_of_mem _ (gw_mem 53 (by decide +kernel))) pa10_isOff (by decide +kernel) ⟨Nat.le_trans (by decide) hR1.1, Nat.le_trans (by decide) hR1.2⟩ (kd10_putItem_ok (26, .invokevirtual 286, 3) (List.mem_of_getElem? (i := 16) rfl))) (am_allc (am_ck_V (n := 5) X hEs hE (km10_put5 hE) (hg_good (gw_mem 1320 (by decide +kernel))) rfl (List.mem_cons_of_mem _ (gw_mem 76 (by decide +kernel))) (List.mem_cons_of_mem _ (gw_mem 1317 (by decide +kernel))) (List.mem_cons_of_mem _ (gw_mem 1319 (by decide +kernel))) (List.mem_cons_of_mem _ (gw_mem 56 (by decide +kernel))) pa10_put5 (by decide +kernel) ⟨Nat.le_trans (by decide) hR1.1, Nat.le_trans (by decide) hR1.2⟩ (kd10_putItem_ok (42, .invokevirtual 263, 3) (List.mem_of_getElem? (i := 24) rfl))) (am_allc (am_ck_V (n := 1) X hEs hE (km10_isRule hE) (hg_good (gw_mem 1324 (by decide +kernel))) rfl (List.mem_cons_of_mem _ (gw_mem 76 (by decide +kernel))) (List.mem_cons_of_mem _ (gw_mem 1321 (by decide +kernel))) (List.mem_cons_of_mem _ (gw_mem 1323 (by decide +kernel))) (List.mem_cons_of_mem _ (gw_mem 57 (by decide +kernel))) pa10_isRule (by decide +kernel) ⟨Nat.le_trans (by decide) hR1.1, Nat.le_trans (by decide) hR1.2⟩ (kd10_putItem_ok (57, .invokevirtual 289, 3) (List.mem_of_getElem? (i := 33) rfl))) (am_allc (am_ck_V (n := 5) X hEs hE (km10_put5 hE) (hg_good (gw_mem 1320 (by decide +kernel))) rfl (List.mem_cons_of_mem _ (gw_mem 76 (by decide +kernel))) (List.mem_cons_of_mem _ (gw_mem 1317 (by decide +kernel))) (List.mem_cons_of_mem _ (gw_mem 1319 (by decide +kernel))) (List.mem_cons_of_mem _ (gw_mem 56 (by decide +kernel))) pa10_put5 (by decide +kernel) ⟨Nat.le_trans (by decide) hR1.1, Nat.le_trans (by decide) hR1.2⟩ (kd10_putItem_ok (73, .invokevirtual 263, 3) (List.mem_of_getElem? (i := 41) rfl))) (am_allc (am_ck_V (n := 1) X hEs hE (km10_putQuote hE) (hg_good (gw_mem 1328 (by decide +kernel))) rfl (List.mem_cons_of_mem _ (gw_mem 76 (by decide +kernel))) (List.mem_cons_of_mem _ (gw_mem 1325 (by decide +kernel))) (List.mem_cons_of_mem _ (gw_mem 1327 (by decide +kernel))) (List.mem_cons_of_mem _ (gw_mem 58 (by decide +kernel))) pa10_putQuote (by decide +kernel) ⟨Nat.le_trans (by decide) hR1.1, Nat.le_trans (by decide) hR1.2⟩ (kd10_putItem_ok (79, .invokevirtual 292, 3) (List.mem_of_getElem? (i := 45) rfl))) (am_allc (am_ck_V (n := 1) X hEs hE (km10_putPlain hE) (hg_good (gw_mem 1332 (by decide +kernel))) rfl (List.mem_cons_of_mem _ (gw_mem 76 (by decide +kernel))) (List.mem_cons_of_mem _ (gw_mem 1329 (by decide +kernel))) (List.mem_cons_of_mem _ (gw_mem 1331 (by decide +kernel))) (List.mem_cons_of_mem _ (gw_mem 59 (by decide +kernel))) pa10_putPlain (by decide +kernel) ⟨Nat.le_trans (by decide) hR1.1, Nat.le_trans (by decide) hR1.2⟩ (kd10_putItem_ok (113, .invokevirtual 283, 3) (List.mem_of_getElem? (i := 65) rfl))) (am_allc (am_ck_V (n := 2) X hEs hE (km10_putUrl hE) (hg_good (gw_mem 1336 (by decide +kernel))) rfl (List.mem_cons_of_mem _ (gw_mem 76 (by decide +kernel))) (List.mem_cons_of_mem _ (gw_mem 1333 (by decide +kernel))) (List.mem_cons_of_mem _ (gw_mem 1335 (by decide +kernel))) (List.mem_cons_of_mem _ (gw_mem 60 (by decide +kernel))) pa10_putUrl (by decide +kernel) ⟨Nat.le_trans (by decide) hR1.1, Nat.le_trans (by decide) hR1.2⟩ (kd10_putItem_ok (131, .invokevirtual 295, 3) (List.mem_of_getElem? (i := 75) rfl))) (am_allc (am_ck_V (n := 1) X hEs hE (km10_put hE) (hg_good (gw_mem 1292 (by decide +kernel))) rfl (List.mem_cons_of_mem _ (gw_mem 76 (by decide +kernel))) (List.mem_cons_of_mem _ (gw_mem 1289 (by decide +kernel))) (List.mem_cons_of_mem _ (gw_mem 1291 (by decide +kernel))) (List.mem_cons_of_mem _ (gw_mem 49 (by decide +kernel))) pa10_put (by decide +kernel) ⟨Nat.le_trans (by decide) hR1.1, Nat.le_trans (by decide) hR1.2⟩ (kd10_putItem_ok (149, .invokevirtual 259, 3) (List.mem_of_getElem? (i := 84) rfl))) (am_allc (am_ck_V (n := 2) X hEs hE (km10_putCode hE) (hg_good (gw_mem 1351 (by decide +kernel))) rfl (List.mem_cons_of_mem _ (gw_mem 76 (by decide +kernel))) (List.mem_cons_of_mem _ (gw_mem 1348 (by decide +kernel))) (List.mem_cons_of_mem _ (gw_mem 1350 (by decide +kernel))) (List.mem_cons_of_mem _ (gw_mem 63 (by decide +kernel))) pa10_putCode (by decide +kernel) ⟨Nat.le_trans (by decide) hR1.1, Nat.le_trans (by decide) hR1.2⟩ (kd10_putItem_ok (172, .invokevirtual 299, 3) (List.mem_of_getElem? (i := 96) rfl))) (am_allc (am_ck_V (n := 1) X hEs hE (km10_putQuote hE) (hg_good (gw_mem 1328 (by decide +kernel))) rfl (List.mem_cons_of_mem _ (gw_mem 76 (by decide +kernel))) (List.mem_cons_of_mem _ (gw_mem 1325 (by decide +kernel))) (List.mem_cons_of_mem _ (gw_mem 1327 (by decide +kernel))) (List.mem_cons_of_mem _ (gw_mem 58 (by decide +kernel))) pa10_putQuote (by decide +kernel) ⟨Nat.le_trans (by decide) hR1.1, Nat.le_trans (by decide) hR1.2⟩ (kd10_putItem_ok (183, .invokevirtual 292, 3) (List.mem_of_getElem? (i := 101) rfl))) (am_all0))))))))))
    exact hz _ (am_as_mem hq)
noncomputable def ki10_variable : List (Nat × Option (List Nat) × Nat × (List am_V → List am_C → Prop) × am_M) := []
noncomputable def kb10_variable : am_B := (kd10_variable, am_as kf10, hn_ty, fun _ => none, fun _ => none, am_as ki10_variable, fun _ => none, 5, 2, (some .int))
noncomputable def fn10_variable (s : hs) (p0 : Int32) : Int32 := Classical.choose (⟨_, rfl⟩ : ∃ z : Int32, z = (((hm_sign s) (p0).toNatClampNeg) - (97 : Int32)))
theorem fq10_variable (s : hs) (p0 : Int32) : fn10_variable s p0 = (((hm_sign s) (p0).toNatClampNeg) - (97 : Int32)) := Classical.choose_spec (⟨_, rfl⟩ : ∃ z : Int32, z = (((hm_sign s) (p0).toNatClampNeg) - (97 : Int32)))
def wp10_variable (s : hs) (p0 : Int32) : Prop := (am_inb p0 240 = true)
set_option maxRecDepth 100000 in
set_option maxHeartbeats 4000000 in
theorem re10_variable (s : hs) (p0 : Int32) (hp : wp10_variable s p0) : am_lf (am_mk kb10_variable 0 0 22) [] (0, am_L0 [.inr (.inl 0), .inl p0] 2, [], (hm_w s), 0, 0) = some (some (.inl (fn10_variable s p0)), (hm_w s)) := by
  unfold wp10_variable at hp
  refine am_lf_eq ?_
  generalize am_lf (am_mk kb10_variable 0 0 22) [] = kt
  refine am_ci (c := am_inb p0 240 = true) hp ?_
  have e : fn10_variable s p0 = (((hm_sign s) (p0).toNatClampNeg) - (97 : Int32)) := by
    rw [fq10_variable]
  rw [e] <;> rfl
abbrev pr10_variable : List am_V → List am_C → Prop := fun a w => ∃ (s : hs) (p0 : Int32), a = [.inr (.inl 0), .inl p0] ∧ w = (hm_w s) ∧ wp10_variable s p0
noncomputable def fm10_variable : am_M := fun a w => (fun (z : Int32) => (some (.inl z), (hm_w (hm_st w 0)), 0, 0)) (fn10_variable (hm_st w 0) (am_i (am_an a 1)))
theorem fe10_variable (s : hs) (p0 : Int32) : fm10_variable [.inr (.inl 0), .inl p0] (hm_w s) = (some (.inl (fn10_variable s p0)), (hm_w s), 0, 0) := rfl
set_option maxRecDepth 100000 in
set_option maxHeartbeats 4000000 in
theorem rn10_variable : ∀ (a : List am_V) (w : List am_C), pr10_variable a w → ∃ nq, am_ev (am_mk kb10_variable (fm10_variable a w).2.2.1 (fm10_variable a w).2.2.2 w.length) [] nq (0, am_L0 a 2, [], w, 0, 0) = some ((fm10_variable a w).1, (fm10_variable a w).2.1) := by
  rintro a w ⟨s, p0, rfl, rfl, hp⟩
  rw [fe10_variable s p0]
  exact am_lf_ev (re10_variable s p0 hp)
theorem rl10_variable : ∀ (a : List am_V) (w : List am_C), pr10_variable a w → a.length ≤ 2 := by
  rintro a w ⟨s, p0, rfl, rfl, hp⟩
  exact Nat.le_of_ble_eq_true rfl
theorem pa10_variable : ∀ a w, pr10_variable a w → ∃ q a' ci fs r, a = .inr (.inl q) :: a' ∧ w[q]? = some (.inr (ci, fs)) ∧ hn_cl[ci]? = some r ∧ r.1 = hn_R10 := by
  rintro a w ⟨s, p0, rfl, rfl, hp⟩
  exact ⟨0, _, 10, _, _, rfl, rfl, rfl, rfl⟩
set_option maxRecDepth 100000 in
set_option maxHeartbeats 4000000 in
theorem km10_variable {l : Launch} {E : (Nat → Prop) → State → Prop} {D : va_G} {ou : Nat → Nat} {ca : Nat → ClassId} (hE : am_EC E) : hg_Met l E D ou ca hy10_variable prog_12_method_69_code 2 (some .int) 0 pr10_variable fm10_variable := by
  refine am_met (B := kb10_variable) (cuts := []) (nt := 5) (by decide +kernel) rfl rfl (hg_tys_ok ca) ?_ (by decide) rl10_variable ?_ rn10_variable
  · exact fun t ht => List.mem_cons_of_mem _ (hg_arr t ht)
  · intro a w hp ad p e R s m args below meth c hR X hEs hnm
    have hR1 : 0 ≤ R.frames ∧ 0 ≤ R.locals := by rw [hR]; exact ⟨Nat.le_refl _, Nat.le_refl _⟩
    refine ⟨kd10_variable_ok, fun index ci fi mode hq => kf10_ok X.2.2.2.2.1 (index, ci, fi, mode) (am_as_mem hq), fun index ci fs hq => (am_no hq).elim, fun x v hq => (am_no hq).elim, ?_, fun o t n f hq => (am_no hq).elim, rfl, rfl, by rw [hR]; exact Nat.le_refl _, by rw [hR]; exact Nat.le_refl _⟩
    intro pc sel n0 pre0 f0 hq
    exact (am_no hq).elim
noncomputable def ki10_choose : List (Nat × Option (List Nat) × Nat × (List am_V → List am_C → Prop) × am_M) := [(3, none, 2, pr10_variable, fm10_variable), (6, none, 2, pr10_firstItem, fm10_firstItem)]
noncomputable def kb10_choose : am_B := (kd10_choose, am_as kf10, hn_ty, fun _ => none, fun _ => none, am_as ki10_choose, fun _ => none, 5, 3, (some .int))
noncomputable def fn10_choose (s : hs) (p0 : Int32) : Int32 := Classical.choose (⟨_, rfl⟩ : ∃ z : Int32, z = (if (fn10_firstItem s (fn10_variable s p0)) < 0 then (if ((hm_other s) (p0).toNatClampNeg) < 0 then (((hm_closing s) (p0).toNatClampNeg) + (1 : Int32)) else (((hm_other s) (p0).toNatClampNeg) + (1 : Int32))) else (if ((hm_lengths s) ((fn10_firstItem s (fn10_variable s p0))).toNatClampNeg) ≤ 0 then (if ((hm_other s) (p0).toNatClampNeg) < 0 then (((hm_closing s) (p0).toNatClampNeg) + (1 : Int32)) else (((hm_other s) (p0).toNatClampNeg) + (1 : Int32))) else (p0 + (1 : Int32)))))
theorem fq10_choose (s : hs) (p0 : Int32) : fn10_choose s p0 = (if (fn10_firstItem s (fn10_variable s p0)) < 0 then (if ((hm_other s) (p0).toNatClampNeg) < 0 then (((hm_closing s) (p0).toNatClampNeg) + (1 : Int32)) else (((hm_other s) (p0).toNatClampNeg) + (1 : Int32))) else (if ((hm_lengths s) ((fn10_firstItem s (fn10_variable s p0))).toNatClampNeg) ≤ 0 then (if ((hm_other s) (p0).toNatClampNeg) < 0 then (((hm_closing s) (p0).toNatClampNeg) + (1 : Int32)) else (((hm_other s) (p0).toNatClampNeg) + (1 : Int32))) else (p0 + (1 : Int32)))) := Classical.choose_spec (⟨_, rfl⟩ : ∃ z : Int32, z = (if (fn10_firstItem s (fn10_variable s p0)) < 0 then (if ((hm_other s) (p0).toNatClampNeg) < 0 then (((hm_closing s) (p0).toNatClampNeg) + (1 : Int32)) else (((hm_other s) (p0).toNatClampNeg) + (1 : Int32))) else (if ((hm_lengths s) ((fn10_firstItem s (fn10_variable s p0))).toNatClampNeg) ≤ 0 then (if ((hm_other s) (p0).toNatClampNeg) < 0 then (((hm_closing s) (p0).toNatClampNeg) + (1 : Int32)) else (((hm_other s) (p0).toNatClampNeg) + (1 : Int32))) else (p0 + (1 : Int32)))))
def wp10_choose (s : hs) (p0 : Int32) : Prop := ((wp10_variable s p0) ∧ ((wp10_firstItem s (fn10_variable s p0)) ∧ (((fn10_firstItem s (fn10_variable s p0)) < 0 → (am_inb p0 240 = true ∧ ((((hm_other s) (p0).toNatClampNeg) < 0 → (am_inb p0 240 = true)) ∧ (¬ ((hm_other s) (p0).toNatClampNeg) < 0 → (am_inb p0 240 = true))))) ∧ (¬ (fn10_firstItem s (fn10_variable s p0)) < 0 → (am_inb (fn10_firstItem s (fn10_variable s p0)) 32 = true ∧ ((((hm_lengths s) ((fn10_firstItem s (fn10_variable s p0))).toNatClampNeg) ≤ 0 → (am_inb p0 240 = true ∧ ((((hm_other s) (p0).toNatClampNeg) < 0 → (am_inb p0 240 = true)) ∧ (¬ ((hm_other s) (p0).toNatClampNeg) < 0 → (am_inb p0 240 = true))))) ∧ (¬ ((hm_lengths s) ((fn10_firstItem s (fn10_variable s p0))).toNatClampNeg) ≤ 0 → True)))))))
set_option maxRecDepth 100000 in
set_option maxHeartbeats 4000000 in
theorem re10_choose (s : hs) (p0 : Int32) (hp : wp10_choose s p0) : am_lf (am_mk kb10_choose 0 0 22) [] (0, am_L0 [.inr (.inl 0), .inl p0] 3, [], (hm_w s), 0, 0) = some (some (.inl (fn10_choose s p0)), (hm_w s)) := by
  unfold wp10_choose at hp
  refine am_lf_eq ?_
  generalize am_lf (am_mk kb10_choose 0 0 22) [] = kt
  refine am_cx (pre := pr10_variable) (f := fm10_variable) (r := (some (.inl (fn10_variable s p0)), (hm_w s), 0, 0)) ?_ ?_ ?_ ?_
  · exact ⟨s, p0, rfl, rfl, hp.1⟩
  · exact fe10_variable s p0
  · exact rfl
  refine am_cx (pre := pr10_firstItem) (f := fm10_firstItem) (r := (some (.inl (fn10_firstItem s (fn10_variable s p0))), (hm_w s), 0, 0)) ?_ ?_ ?_ ?_
  · exact ⟨s, (fn10_variable s p0), rfl, rfl, hp.2.1⟩
  · exact fe10_firstItem s (fn10_variable s p0)
  · exact rfl
  refine am_if (c := (fn10_firstItem s (fn10_variable s p0)) < 0) (fun h1 => ?_) (fun h1 => ?_)
  · have q1 := hp.2.2.1 h1
    refine am_ci (c := am_inb p0 240 = true) q1.1 ?_
    refine am_if (c := ((hm_other s) (p0).toNatClampNeg) < 0) (fun h2 => ?_) (fun h2 => ?_)
    · have q2 := q1.2.1 h2
      refine am_ci (c := am_inb p0 240 = true) q2 ?_
      have e : fn10_choose s p0 = (((hm_closing s) (p0).toNatClampNeg) + (1 : Int32)) := by
        rw [fq10_choose]
        rw [if_pos h1, if_pos h2]
      rw [e] <;> rfl
    · have q2 := q1.2.2 h2
      refine am_ci (c := am_inb p0 240 = true) q2 ?_
      have e : fn10_choose s p0 = (((hm_other s) (p0).toNatClampNeg) + (1 : Int32)) := by
        rw [fq10_choose]
        rw [if_pos h1, if_neg h2]
      rw [e] <;> rfl
  · have q1 := hp.2.2.2 h1
    refine am_ci (c := am_inb (fn10_firstItem s (fn10_variable s p0)) 32 = true) q1.1 ?_
    refine am_if (c := ((hm_lengths s) ((fn10_firstItem s (fn10_variable s p0))).toNatClampNeg) ≤ 0) (fun h2 => ?_) (fun h2 => ?_)
    · have q2 := q1.2.1 h2
      refine am_ci (c := am_inb p0 240 = true) q2.1 ?_
      refine am_if (c := ((hm_other s) (p0).toNatClampNeg) < 0) (fun h3 => ?_) (fun h3 => ?_)
      · have q3 := q2.2.1 h3
        refine am_ci (c := am_inb p0 240 = true) q3 ?_
        have e : fn10_choose s p0 = (((hm_closing s) (p0).toNatClampNeg) + (1 : Int32)) := by
          rw [fq10_choose]
          rw [if_neg h1, if_pos h2, if_pos h3]
        rw [e] <;> rfl
      · have q3 := q2.2.2 h3
        refine am_ci (c := am_inb p0 240 = true) q3 ?_
        have e : fn10_choose s p0 = (((hm_other s) (p0).toNatClampNeg) + (1 : Int32)) := by
          rw [fq10_choose]
          rw [if_neg h1, if_pos h2, if_neg h3]
        rw [e] <;> rfl
    · have e : fn10_choose s p0 = (p0 + (1 : Int32)) := by
        rw [fq10_choose]
        rw [if_neg h1, if_neg h2]
      rw [e] <;> rfl
abbrev pr10_choose : List am_V → List am_C → Prop := fun a w => ∃ (s : hs) (p0 : Int32), a = [.inr (.inl 0), .inl p0] ∧ w = (hm_w s) ∧ wp10_choose s p0
noncomputable def fm10_choose : am_M := fun a w => (fun (z : Int32) => (some (.inl z), (hm_w (hm_st w 0)), 0, 0)) (fn10_choose (hm_st w 0) (am_i (am_an a 1)))
theorem fe10_choose (s : hs) (p0 : Int32) : fm10_choose [.inr (.inl 0), .inl p0] (hm_w s) = (some (.inl (fn10_choose s p0)), (hm_w s), 0, 0) := rfl
set_option maxRecDepth 100000 in
set_option maxHeartbeats 4000000 in
theorem rn10_choose : ∀ (a : List am_V) (w : List am_C), pr10_choose a w → ∃ nq, am_ev (am_mk kb10_choose (fm10_choose a w).2.2.1 (fm10_choose a w).2.2.2 w.length) [] nq (0, am_L0 a 3, [], w, 0, 0) = some ((fm10_choose a w).1, (fm10_choose a w).2.1) := by
  rintro a w ⟨s, p0, rfl, rfl, hp⟩
  rw [fe10_choose s p0]
  exact am_lf_ev (re10_choose s p0 hp)
theorem rl10_choose : ∀ (a : List am_V) (w : List am_C), pr10_choose a w → a.length ≤ 3 := by
  rintro a w ⟨s, p0, rfl, rfl, hp⟩
  exact Nat.le_of_ble_eq_true rfl
theorem pa10_choose : ∀ a w, pr10_choose a w → ∃ q a' ci fs r, a = .inr (.inl q) :: a' ∧ w[q]? = some (.inr (ci, fs)) ∧ hn_cl[ci]? = some r ∧ r.1 = hn_R10 := by
  rintro a w ⟨s, p0, rfl, rfl, hp⟩
  exact ⟨0, _, 10, _, _, rfl, rfl, rfl, rfl⟩
set_option maxRecDepth 100000 in
set_option maxHeartbeats 4000000 in
theorem km10_choose {l : Launch} {E : (Nat → Prop) → State → Prop} {D : va_G} {ou : Nat → Nat} {ca : Nat → ClassId} (hE : am_EC E) : hg_Met l E D ou ca hy10_choose prog_12_method_70_code 3 (some .int) 1 pr10_choose fm10_choose := by
  refine am_met (B := kb10_choose) (cuts := []) (nt := 5) (by decide +kernel) rfl rfl (hg_tys_ok ca) ?_ (by decide) rl10_choose ?_ rn10_choose
  · exact fun t ht => List.mem_cons_of_mem _ (hg_arr t ht)
  · intro a w hp ad p e R s m args below meth c hR X hEs hnm
    have hR1 : 1 ≤ R.frames ∧ 40 ≤ R.locals := by rw [hR]; exact ⟨Nat.le_refl _, Nat.le_refl _⟩
    refine ⟨kd10_choose_ok, fun index ci fi mode hq => kf10_ok X.2.2.2.2.1 (index, ci, fi, mode) (am_as_mem hq), fun index ci fs hq => (am_no hq).elim, fun x v hq => (am_no hq).elim, ?_, fun o t n f hq => (am_no hq).elim, rfl, rfl, by rw [hR]; exact Nat.le_refl _, by rw [hR]; exact Nat.le_refl _⟩
    intro pc sel n0 pre0 f0 hq
    have hz : ∀ q ∈ ki10_choose, am_CK p l e R s m args below meth c D hn_cl (va_A (am_w ad ou ca w) s.heap.size) ou ca 3 q.1 q.2.2.1 q.2.2.2.1 q.2.2.2.2 := by
      refine am_allc (am_ck_V (n := 1) X hEs hE (km10_variable hE) (hg_good (gw_mem 1296 (by decide +kernel))) rfl (List.mem_cons_of_mem _ (gw_mem 76 (by decide +kernel))) (List.mem_cons_of_mem _ (gw_mem 1293 (by decide +kernel))) (List.mem_cons_of_mem _ (gw_mem 1295 (by decide +kernel))) (List.mem_cons_of_mem _ (gw_mem 50 (by decide +kernel))) pa10_variable (by decide +kernel) ⟨Nat.le_trans (by decide) hR1.1, Nat.le_trans (by decide) hR1.2⟩ (kd10_choose_ok (3, .invokevirtual 303, 3) (List.mem_of_getElem? (i := 3) rfl))) (am_allc (am_ck_V (n := 1) X hEs hE (km10_firstItem hE) (hg_good (gw_mem 1300 (by decide +kernel))) rfl (List.mem_cons_of_mem _ (gw_mem 76 (by decide +kernel))) (List.mem_cons_of_mem _ (gw_mem 1297 (by decide +kernel))) (List.mem_cons_of_mem _ (gw_mem 1299 (by decide +kernel))) (List.mem_cons_of_mem _ (gw_mem 51 (by decide +kernel))) pa10_firstItem (by decide +kernel) ⟨Nat.le_trans (by decide) hR1.1, Nat.le_trans (by decide) hR1.2⟩ (kd10_choose_ok (6, .invokevirtual 306, 3) (List.mem_of_getElem? (i := 4) rfl))) (am_all0))
    exact hz _ (am_as_mem hq)
noncomputable def ki10_beginLoop : List (Nat × Option (List Nat) × Nat × (List am_V → List am_C → Prop) × am_M) := [(2, none, 2, pr10_variable, fm10_variable), (8, none, 2, pr10_firstItem, fm10_firstItem)]
noncomputable def kb10_beginLoop : am_B := (kd10_beginLoop, am_as kf10, hn_ty, fun _ => none, fun _ => none, am_as ki10_beginLoop, fun _ => none, 5, 4, (some .int))
noncomputable def fn10_beginLoop_c60 (s : hs) (v1 : Int32) (v2 : Int32) (v3 : Int32) : Int32 × hs := ((v1 + (1 : Int32)), (ha_alone s ((v2).toNatClampNeg) v3))
def wp10_beginLoop_c60 (s : hs) (v1 : Int32) (v2 : Int32) (v3 : Int32) : Prop := (am_inb v2 8 = true)
set_option maxRecDepth 100000 in
set_option maxHeartbeats 4000000 in
theorem rc10_beginLoop_60 (s : hs) (v1 : Int32) (v2 : Int32) (v3 : Int32) (hp : wp10_beginLoop_c60 s v1 v2 v3) : am_lf (am_mk kb10_beginLoop 0 0 22) [35, 50, 60] (60, [some (.inr (.inl 0)), some (.inl v1), some (.inl v2), some (.inl v3)], [], (hm_w s), 0, 0) = some (some (.inl ((fn10_beginLoop_c60 s v1 v2 v3).1)), (hm_w ((fn10_beginLoop_c60 s v1 v2 v3).2))) := by
  unfold wp10_beginLoop_c60 at hp
  refine am_lf_eq ?_
  generalize am_lf (am_mk kb10_beginLoop 0 0 22) [35, 50, 60] = kt
  refine am_ci (c := am_inb v2 8 = true) hp ?_
  refine am_sp (w' := (hm_w (ha_alone s ((v2).toNatClampNeg) v3))) (kp_R_0_alone s ((v2).toNatClampNeg) v3) ?_
  have e : fn10_beginLoop_c60 s v1 v2 v3 = ((v1 + (1 : Int32)), (ha_alone s ((v2).toNatClampNeg) v3)) := by
    rw [fn10_beginLoop_c60]
  rw [e] <;> rfl
noncomputable def fn10_beginLoop_c50 (s : hs) (v1 : Int32) (v2 : Int32) (v3 : Int32) : Int32 × hs := (fn10_beginLoop_c60 (hu_deep s ((hm_deep s) + (1 : Int32))) v1 v2 v3)
def wp10_beginLoop_c50 (s : hs) (v1 : Int32) (v2 : Int32) (v3 : Int32) : Prop := (wp10_beginLoop_c60 (hu_deep s ((hm_deep s) + (1 : Int32))) v1 v2 v3)
set_option maxRecDepth 100000 in
set_option maxHeartbeats 4000000 in
theorem rc10_beginLoop_50 (s : hs) (v1 : Int32) (v2 : Int32) (v3 : Int32) (hp : wp10_beginLoop_c50 s v1 v2 v3) : am_lf (am_mk kb10_beginLoop 0 0 22) [35, 50, 60] (50, [some (.inr (.inl 0)), some (.inl v1), some (.inl v2), some (.inl v3)], [], (hm_w s), 0, 0) = some (some (.inl ((fn10_beginLoop_c50 s v1 v2 v3).1)), (hm_w ((fn10_beginLoop_c50 s v1 v2 v3).2))) := by
  unfold wp10_beginLoop_c50 at hp
  have i60 := @rc10_beginLoop_60
  refine am_lf_eq ?_
  generalize am_lf (am_mk kb10_beginLoop 0 0 22) [35, 50, 60] = kt at i60 ⊢
  refine am_sp (w' := (hm_w (hu_deep s ((hm_deep s) + (1 : Int32))))) (kp_R_0_deep s ((hm_deep s) + (1 : Int32))) ?_
  have e : fn10_beginLoop_c50 s v1 v2 v3 = fn10_beginLoop_c60 (hu_deep s ((hm_deep s) + (1 : Int32))) v1 v2 v3 := by
    rw [fn10_beginLoop_c50]
  rw [e]
  exact i60 (hu_deep s ((hm_deep s) + (1 : Int32))) v1 v2 v3  hp
noncomputable def fn10_beginLoop_c35 (s : hs) (v1 : Int32) (v2 : Int32) (v3 : Int32) : Int32 × hs := (fn10_beginLoop_c50 (ha_saved s (((hm_deep s)).toNatClampNeg) ((hm_alone s) (v2).toNatClampNeg)) v1 v2 v3)
def wp10_beginLoop_c35 (s : hs) (v1 : Int32) (v2 : Int32) (v3 : Int32) : Prop := (am_inb v2 8 = true ∧ (am_inb (hm_deep s) 6 = true ∧ (wp10_beginLoop_c50 (ha_saved s (((hm_deep s)).toNatClampNeg) ((hm_alone s) (v2).toNatClampNeg)) v1 v2 v3)))
set_option maxRecDepth 100000 in
set_option maxHeartbeats 4000000 in
theorem rc10_beginLoop_35 (s : hs) (v1 : Int32) (v2 : Int32) (v3 : Int32) (hp : wp10_beginLoop_c35 s v1 v2 v3) : am_lf (am_mk kb10_beginLoop 0 0 22) [35, 50, 60] (35, [some (.inr (.inl 0)), some (.inl v1), some (.inl v2), some (.inl v3)], [], (hm_w s), 0, 0) = some (some (.inl ((fn10_beginLoop_c35 s v1 v2 v3).1)), (hm_w ((fn10_beginLoop_c35 s v1 v2 v3).2))) := by
  unfold wp10_beginLoop_c35 at hp
  have i50 := @rc10_beginLoop_50
  refine am_lf_eq ?_
  generalize am_lf (am_mk kb10_beginLoop 0 0 22) [35, 50, 60] = kt at i50 ⊢
  refine am_ci (c := am_inb v2 8 = true) hp.1 ?_
  refine am_ci (c := am_inb (hm_deep s) 6 = true) hp.2.1 ?_
  refine am_sp (w' := (hm_w (ha_saved s (((hm_deep s)).toNatClampNeg) ((hm_alone s) (v2).toNatClampNeg)))) (kp_R_0_saved s (((hm_deep s)).toNatClampNeg) ((hm_alone s) (v2).toNatClampNeg)) ?_
  have e : fn10_beginLoop_c35 s v1 v2 v3 = fn10_beginLoop_c50 (ha_saved s (((hm_deep s)).toNatClampNeg) ((hm_alone s) (v2).toNatClampNeg)) v1 v2 v3 := by
    rw [fn10_beginLoop_c35]
  rw [e]
  exact i50 (ha_saved s (((hm_deep s)).toNatClampNeg) ((hm_alone s) (v2).toNatClampNeg)) v1 v2 v3  hp.2.2
noncomputable def fn10_beginLoop (s : hs) (p0 : Int32) : Int32 × hs := Classical.choose (⟨_, rfl⟩ : ∃ z : Int32 × hs, z = (if 0 ≤ (fn10_firstItem s (fn10_variable s p0)) then (fn10_beginLoop_c35 (ha_loops s (((hm_deep s)).toNatClampNeg) p0) p0 (fn10_variable s p0) (fn10_firstItem s (fn10_variable s p0))) else ((((hm_closing s) (p0).toNatClampNeg) + (1 : Int32)), s)))
theorem fq10_beginLoop (s : hs) (p0 : Int32) : fn10_beginLoop s p0 = (if 0 ≤ (fn10_firstItem s (fn10_variable s p0)) then (fn10_beginLoop_c35 (ha_loops s (((hm_deep s)).toNatClampNeg) p0) p0 (fn10_variable s p0) (fn10_firstItem s (fn10_variable s p0))) else ((((hm_closing s) (p0).toNatClampNeg) + (1 : Int32)), s)) := Classical.choose_spec (⟨_, rfl⟩ : ∃ z : Int32 × hs, z = (if 0 ≤ (fn10_firstItem s (fn10_variable s p0)) then (fn10_beginLoop_c35 (ha_loops s (((hm_deep s)).toNatClampNeg) p0) p0 (fn10_variable s p0) (fn10_firstItem s (fn10_variable s p0))) else ((((hm_closing s) (p0).toNatClampNeg) + (1 : Int32)), s)))
def wp10_beginLoop (s : hs) (p0 : Int32) : Prop := ((wp10_variable s p0) ∧ ((wp10_firstItem s (fn10_variable s p0)) ∧ ((0 ≤ (fn10_firstItem s (fn10_variable s p0)) → (am_inb (hm_deep s) 6 = true ∧ (wp10_beginLoop_c35 (ha_loops s (((hm_deep s)).toNatClampNeg) p0) p0 (fn10_variable s p0) (fn10_firstItem s (fn10_variable s p0))))) ∧ (¬ 0 ≤ (fn10_firstItem s (fn10_variable s p0)) → (am_inb p0 240 = true)))))
set_option maxRecDepth 100000 in
set_option maxHeartbeats 4000000 in
theorem re10_beginLoop (s : hs) (p0 : Int32) (hp : wp10_beginLoop s p0) : am_lf (am_mk kb10_beginLoop 0 0 22) [35, 50, 60] (0, am_L0 [.inr (.inl 0), .inl p0] 4, [], (hm_w s), 0, 0) = some (some (.inl ((fn10_beginLoop s p0).1)), (hm_w ((fn10_beginLoop s p0).2))) := by
  unfold wp10_beginLoop at hp
  have i35 := @rc10_beginLoop_35
  refine am_lf_eq ?_
  generalize am_lf (am_mk kb10_beginLoop 0 0 22) [35, 50, 60] = kt at i35 ⊢
  refine am_cx (pre := pr10_variable) (f := fm10_variable) (r := (some (.inl (fn10_variable s p0)), (hm_w s), 0, 0)) ?_ ?_ ?_ ?_
  · exact ⟨s, p0, rfl, rfl, hp.1⟩
  · exact fe10_variable s p0
  · exact rfl
  refine am_cx (pre := pr10_firstItem) (f := fm10_firstItem) (r := (some (.inl (fn10_firstItem s (fn10_variable s p0))), (hm_w s), 0, 0)) ?_ ?_ ?_ ?_
  · exact ⟨s, (fn10_variable s p0), rfl, rfl, hp.2.1⟩
  · exact fe10_firstItem s (fn10_variable s p0)
  · exact rfl
  refine am_if (c := 0 ≤ (fn10_firstItem s (fn10_variable s p0))) (fun h1 => ?_) (fun h1 => ?_)
  · have q1 := hp.2.2.1 h1
    refine am_ci (c := am_inb (hm_deep s) 6 = true) q1.1 ?_
    refine am_sp (w' := (hm_w (ha_loops s (((hm_deep s)).toNatClampNeg) p0))) (kp_R_0_loops s (((hm_deep s)).toNatClampNeg) p0) ?_
    have e : fn10_beginLoop s p0 = fn10_beginLoop_c35 (ha_loops s (((hm_deep s)).toNatClampNeg) p0) p0 (fn10_variable s p0) (fn10_firstItem s (fn10_variable s p0)) := by
      rw [fq10_beginLoop]
      rw [if_pos h1]
    rw [e]
    exact i35 (ha_loops s (((hm_deep s)).toNatClampNeg) p0) p0 (fn10_variable s p0) (fn10_firstItem s (fn10_variable s p0))  q1.2
  · have q1 := hp.2.2.2 h1
    refine am_ci (c := am_inb p0 240 = true) q1 ?_
    have e : fn10_beginLoop s p0 = ((((hm_closing s) (p0).toNatClampNeg) + (1 : Int32)), s) := by
      rw [fq10_beginLoop]
      rw [if_neg h1]
    rw [e] <;> rfl
abbrev pr10_beginLoop : List am_V → List am_C → Prop := fun a w => ∃ (s : hs) (p0 : Int32), a = [.inr (.inl 0), .inl p0] ∧ w = (hm_w s) ∧ wp10_beginLoop s p0
noncomputable def fm10_beginLoop : am_M := fun a w => (fun (z : Int32 × hs) => (some (.inl (z.1)), (hm_w (z.2)), 0, 0)) (fn10_beginLoop (hm_st w 0) (am_i (am_an a 1)))
theorem fe10_beginLoop (s : hs) (p0 : Int32) : fm10_beginLoop [.inr (.inl 0), .inl p0] (hm_w s) = (some (.inl ((fn10_beginLoop s p0).1)), (hm_w ((fn10_beginLoop s p0).2)), 0, 0) := rfl
set_option maxRecDepth 100000 in
set_option maxHeartbeats 4000000 in
theorem rn10_beginLoop : ∀ (a : List am_V) (w : List am_C), pr10_beginLoop a w → ∃ nq, am_ev (am_mk kb10_beginLoop (fm10_beginLoop a w).2.2.1 (fm10_beginLoop a w).2.2.2 w.length) [35, 50, 60] nq (0, am_L0 a 4, [], w, 0, 0) = some ((fm10_beginLoop a w).1, (fm10_beginLoop a w).2.1) := by
  rintro a w ⟨s, p0, rfl, rfl, hp⟩
  rw [fe10_beginLoop s p0]
  exact am_lf_ev (re10_beginLoop s p0 hp)
theorem rl10_beginLoop : ∀ (a : List am_V) (w : List am_C), pr10_beginLoop a w → a.length ≤ 4 := by
  rintro a w ⟨s, p0, rfl, rfl, hp⟩
  exact Nat.le_of_ble_eq_true rfl
theorem pa10_beginLoop : ∀ a w, pr10_beginLoop a w → ∃ q a' ci fs r, a = .inr (.inl q) :: a' ∧ w[q]? = some (.inr (ci, fs)) ∧ hn_cl[ci]? = some r ∧ r.1 = hn_R10 := by
  rintro a w ⟨s, p0, rfl, rfl, hp⟩
  exact ⟨0, _, 10, _, _, rfl, rfl, rfl, rfl⟩
set_option maxRecDepth 100000 in
set_option maxHeartbeats 4000000 in
theorem km10_beginLoop {l : Launch} {E : (Nat → Prop) → State → Prop} {D : va_G} {ou : Nat → Nat} {ca : Nat → ClassId} (hE : am_EC E) : hg_Met l E D ou ca hy10_beginLoop prog_12_method_71_code 4 (some .int) 1 pr10_beginLoop fm10_beginLoop := by
  refine am_met (B := kb10_beginLoop) (cuts := [35, 50, 60]) (nt := 5) (by decide +kernel) rfl rfl (hg_tys_ok ca) ?_ (by decide) rl10_beginLoop ?_ rn10_beginLoop
  · exact fun t ht => List.mem_cons_of_mem _ (hg_arr t ht)
  · intro a w hp ad p e R s m args below meth c hR X hEs hnm
    have hR1 : 1 ≤ R.frames ∧ 40 ≤ R.locals := by rw [hR]; exact ⟨Nat.le_refl _, Nat.le_refl _⟩
    refine ⟨kd10_beginLoop_ok, fun index ci fi mode hq => kf10_ok X.2.2.2.2.1 (index, ci, fi, mode) (am_as_mem hq), fun index ci fs hq => (am_no hq).elim, fun x v hq => (am_no hq).elim, ?_, fun o t n f hq => (am_no hq).elim, rfl, rfl, by rw [hR]; exact Nat.le_refl _, by rw [hR]; exact Nat.le_refl _⟩
    intro pc sel n0 pre0 f0 hq
    have hz : ∀ q ∈ ki10_beginLoop, am_CK p l e R s m args below meth c D hn_cl (va_A (am_w ad ou ca w) s.heap.size) ou ca 4 q.1 q.2.2.1 q.2.2.2.1 q.2.2.2.2 := by
      refine am_allc (am_ck_V (n := 1) X hEs hE (km10_variable hE) (hg_good (gw_mem 1296 (by decide +kernel))) rfl (List.mem_cons_of_mem _ (gw_mem 76 (by decide +kernel))) (List.mem_cons_of_mem _ (gw_mem 1293 (by decide +kernel))) (List.mem_cons_of_mem _ (gw_mem 1295 (by decide +kernel))) (List.mem_cons_of_mem _ (gw_mem 50 (by decide +kernel))) pa10_variable (by decide +kernel) ⟨Nat.le_trans (by decide) hR1.1, Nat.le_trans (by decide) hR1.2⟩ (kd10_beginLoop_ok (2, .invokevirtual 303, 3) (List.mem_of_getElem? (i := 2) rfl))) (am_allc (am_ck_V (n := 1) X hEs hE (km10_firstItem hE) (hg_good (gw_mem 1300 (by decide +kernel))) rfl (List.mem_cons_of_mem _ (gw_mem 76 (by decide +kernel))) (List.mem_cons_of_mem _ (gw_mem 1297 (by decide +kernel))) (List.mem_cons_of_mem _ (gw_mem 1299 (by decide +kernel))) (List.mem_cons_of_mem _ (gw_mem 51 (by decide +kernel))) pa10_firstItem (by decide +kernel) ⟨Nat.le_trans (by decide) hR1.1, Nat.le_trans (by decide) hR1.2⟩ (kd10_beginLoop_ok (8, .invokevirtual 306, 3) (List.mem_of_getElem? (i := 6) rfl))) (am_all0))
    exact hz _ (am_as_mem hq)
