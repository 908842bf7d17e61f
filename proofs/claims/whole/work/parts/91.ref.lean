noncomputable def ki10_staysInUrl : List (Nat × Option (List Nat) × Nat × (List am_V → List am_C → Prop) × am_M) := []
noncomputable def kb10_staysInUrl : am_B := (kd10_staysInUrl, am_as kf10, hn_ty, fun _ => none, fun _ => none, am_as ki10_staysInUrl, fun _ => none, 5, 1, (some .boolean))
noncomputable def fn10_staysInUrl_c72 : Int32 := (1 : Int32)
def wp10_staysInUrl_c72 : Prop := True
set_option maxRecDepth 100000 in
set_option maxHeartbeats 4000000 in
theorem rc10_staysInUrl_72 (j0 : Option am_V) (g0 : am_loO 0 j0 = true) (hp : wp10_staysInUrl_c72 ) : am_lf (am_mk kb10_staysInUrl 0 0 0) [72] (72, [j0], [], [], 0, 0) = some (some (.inl (fn10_staysInUrl_c72 )), []) := by
  unfold wp10_staysInUrl_c72 at hp
  refine am_lf_eq ?_
  generalize am_lf (am_mk kb10_staysInUrl 0 0 0) [72] = kt
  have e : fn10_staysInUrl_c72  = (1 : Int32) := by
    rw [fn10_staysInUrl_c72]
  rw [e] <;> rfl
noncomputable def fn10_staysInUrl (p0 : Int32) : Int32 := Classical.choose (⟨_, rfl⟩ : ∃ z : Int32, z = (if p0 = (47 : Int32) then (fn10_staysInUrl_c72 ) else (if p0 = (58 : Int32) then (fn10_staysInUrl_c72 ) else (if p0 = (64 : Int32) then (fn10_staysInUrl_c72 ) else (if p0 = (33 : Int32) then (fn10_staysInUrl_c72 ) else (if p0 = (36 : Int32) then (fn10_staysInUrl_c72 ) else (if p0 = (42 : Int32) then (fn10_staysInUrl_c72 ) else (if p0 = (43 : Int32) then (fn10_staysInUrl_c72 ) else (if p0 = (44 : Int32) then (fn10_staysInUrl_c72 ) else (if p0 = (59 : Int32) then (fn10_staysInUrl_c72 ) else (if p0 = (61 : Int32) then (fn10_staysInUrl_c72 ) else (if p0 = (63 : Int32) then (fn10_staysInUrl_c72 ) else (if p0 = (35 : Int32) then (fn10_staysInUrl_c72 ) else (0 : Int32))))))))))))))
theorem fq10_staysInUrl (p0 : Int32) : fn10_staysInUrl p0 = (if p0 = (47 : Int32) then (fn10_staysInUrl_c72 ) else (if p0 = (58 : Int32) then (fn10_staysInUrl_c72 ) else (if p0 = (64 : Int32) then (fn10_staysInUrl_c72 ) else (if p0 = (33 : Int32) then (fn10_staysInUrl_c72 ) else (if p0 = (36 : Int32) then (fn10_staysInUrl_c72 ) else (if p0 = (42 : Int32) then (fn10_staysInUrl_c72 ) else (if p0 = (43 : Int32) then (fn10_staysInUrl_c72 ) else (if p0 = (44 : Int32) then (fn10_staysInUrl_c72 ) else (if p0 = (59 : Int32) then (fn10_staysInUrl_c72 ) else (if p0 = (61 : Int32) then (fn10_staysInUrl_c72 ) else (if p0 = (63 : Int32) then (fn10_staysInUrl_c72 ) else (if p0 = (35 : Int32) then (fn10_staysInUrl_c72 ) else (0 : Int32))))))))))))) := Classical.choose_spec (⟨_, rfl⟩ : ∃ z : Int32, z = (if p0 = (47 : Int32) then (fn10_staysInUrl_c72 ) else (if p0 = (58 : Int32) then (fn10_staysInUrl_c72 ) else (if p0 = (64 : Int32) then (fn10_staysInUrl_c72 ) else (if p0 = (33 : Int32) then (fn10_staysInUrl_c72 ) else (if p0 = (36 : Int32) then (fn10_staysInUrl_c72 ) else (if p0 = (42 : Int32) then (fn10_staysInUrl_c72 ) else (if p0 = (43 : Int32) then (fn10_staysInUrl_c72 ) else (if p0 = (44 : Int32) then (fn10_staysInUrl_c72 ) else (if p0 = (59 : Int32) then (fn10_staysInUrl_c72 ) else (if p0 = (61 : Int32) then (fn10_staysInUrl_c72 ) else (if p0 = (63 : Int32) then (fn10_staysInUrl_c72 ) else (if p0 = (35 : Int32) then (fn10_staysInUrl_c72 ) else (0 : Int32))))))))))))))
def wp10_staysInUrl (p0 : Int32) : Prop := ((p0 = (47 : Int32) → (wp10_staysInUrl_c72 )) ∧ (¬ p0 = (47 : Int32) → ((p0 = (58 : Int32) → (wp10_staysInUrl_c72 )) ∧ (¬ p0 = (58 : Int32) → ((p0 = (64 : Int32) → (wp10_staysInUrl_c72 )) ∧ (¬ p0 = (64 : Int32) → ((p0 = (33 : Int32) → (wp10_staysInUrl_c72 )) ∧ (¬ p0 = (33 : Int32) → ((p0 = (36 : Int32) → (wp10_staysInUrl_c72 )) ∧ (¬ p0 = (36 : Int32) → ((p0 = (42 : Int32) → (wp10_staysInUrl_c72 )) ∧ (¬ p0 = (42 : Int32) → ((p0 = (43 : Int32) → (wp10_staysInUrl_c72 )) ∧ (¬ p0 = (43 : Int32) → ((p0 = (44 : Int32) → (wp10_staysInUrl_c72 )) ∧ (¬ p0 = (44 : Int32) → ((p0 = (59 : Int32) → (wp10_staysInUrl_c72 )) ∧ (¬ p0 = (59 : Int32) → ((p0 = (61 : Int32) → (wp10_staysInUrl_c72 )) ∧ (¬ p0 = (61 : Int32) → ((p0 = (63 : Int32) → (wp10_staysInUrl_c72 )) ∧ (¬ p0 = (63 : Int32) → ((p0 = (35 : Int32) → (wp10_staysInUrl_c72 )) ∧ (¬ p0 = (35 : Int32) → True))))))))))))))))))))))))
set_option maxRecDepth 100000 in
set_option maxHeartbeats 4000000 in
theorem re10_staysInUrl (p0 : Int32) (hp : wp10_staysInUrl p0) : am_lf (am_mk kb10_staysInUrl 0 0 0) [72] (0, am_L0 [.inl p0] 1, [], [], 0, 0) = some (some (.inl (fn10_staysInUrl p0)), []) := by
  unfold wp10_staysInUrl at hp
  have i72 := @rc10_staysInUrl_72
  refine am_lf_eq ?_
  generalize am_lf (am_mk kb10_staysInUrl 0 0 0) [72] = kt at i72 ⊢
  refine am_if (c := p0 = (47 : Int32)) (fun h1 => ?_) (fun h1 => ?_)
  · have q1 := hp.1 h1
    have e : fn10_staysInUrl p0 = fn10_staysInUrl_c72  := by
      rw [fq10_staysInUrl]
      rw [if_pos h1]
    rw [e]
    exact i72  _ rfl q1
  · have q1 := hp.2 h1
    refine am_if (c := p0 = (58 : Int32)) (fun h2 => ?_) (fun h2 => ?_)
    · have q2 := q1.1 h2
      have e : fn10_staysInUrl p0 = fn10_staysInUrl_c72  := by
        rw [fq10_staysInUrl]
        rw [if_neg h1, if_pos h2]
      rw [e]
      exact i72  _ rfl q2
    · have q2 := q1.2 h2
      refine am_if (c := p0 = (64 : Int32)) (fun h3 => ?_) (fun h3 => ?_)
      · have q3 := q2.1 h3
        have e : fn10_staysInUrl p0 = fn10_staysInUrl_c72  := by
          rw [fq10_staysInUrl]
          rw [if_neg h1, if_neg h2, if_pos h3]
        rw [e]
        exact i72  _ rfl q3
      · have q3 := q2.2 h3
        refine am_if (c := p0 = (33 : Int32)) (fun h4 => ?_) (fun h4 => ?_)
        · have q4 := q3.1 h4
          have e : fn10_staysInUrl p0 = fn10_staysInUrl_c72  := by
            rw [fq10_staysInUrl]
            rw [if_neg h1, if_neg h2, if_neg h3, if_pos h4]
          rw [e]
          exact i72  _ rfl q4
        · have q4 := q3.2 h4
          refine am_if (c := p0 = (36 : Int32)) (fun h5 => ?_) (fun h5 => ?_)
          · have q5 := q4.1 h5
            have e : fn10_staysInUrl p0 = fn10_staysInUrl_c72  := by
              rw [fq10_staysInUrl]
              rw [if_neg h1, if_neg h2, if_neg h3, if_neg h4, if_pos h5]
            rw [e]
            exact i72  _ rfl q5
          · have q5 := q4.2 h5
            refine am_if (c := p0 = (42 : Int32)) (fun h6 => ?_) (fun h6 => ?_)
            · have q6 := q5.1 h6
              have e : fn10_staysInUrl p0 = fn10_staysInUrl_c72  := by
                rw [fq10_staysInUrl]
                rw [if_neg h1, if_neg h2, if_neg h3, if_neg h4, if_neg h5, if_pos h6]
              rw [e]
              exact i72  _ rfl q6
            · have q6 := q5.2 h6
              refine am_if (c := p0 = (43 : Int32)) (fun h7 => ?_) (fun h7 => ?_)
              · have q7 := q6.1 h7
                have e : fn10_staysInUrl p0 = fn10_staysInUrl_c72  := by
                  rw [fq10_staysInUrl]
                  rw [if_neg h1, if_neg h2, if_neg h3, if_neg h4, if_neg h5, if_neg h6, if_pos h7]
                rw [e]
                exact i72  _ rfl q7
              · have q7 := q6.2 h7
                refine am_if (c := p0 = (44 : Int32)) (fun h8 => ?_) (fun h8 => ?_)
                · have q8 := q7.1 h8
                  have e : fn10_staysInUrl p0 = fn10_staysInUrl_c72  := by
                    rw [fq10_staysInUrl]
                    rw [if_neg h1, if_neg h2, if_neg h3, if_neg h4, if_neg h5, if_neg h6, if_neg h7, if_pos h8]
                  rw [e]
                  exact i72  _ rfl q8
                · have q8 := q7.2 h8
                  refine am_if (c := p0 = (59 : Int32)) (fun h9 => ?_) (fun h9 => ?_)
                  · have q9 := q8.1 h9
                    have e : fn10_staysInUrl p0 = fn10_staysInUrl_c72  := by
                      rw [fq10_staysInUrl]
                      rw [if_neg h1, if_neg h2, if_neg h3, if_neg h4, if_neg h5, if_neg h6, if_neg h7, if_neg h8, if_pos h9]
                    rw [e]
                    exact i72  _ rfl q9
                  · have q9 := q8.2 h9
                    refine am_if (c := p0 = (61 : Int32)) (fun h10 => ?_) (fun h10 => ?_)
                    · have q10 := q9.1 h10
                      have e : fn10_staysInUrl p0 = fn10_staysInUrl_c72  := by
                        rw [fq10_staysInUrl]
                        rw [if_neg h1, if_neg h2, if_neg h3, if_neg h4, if_neg h5, if_neg h6, if_neg h7, if_neg h8, if_neg h9, if_pos h10]
                      rw [e]
                      exact i72  _ rfl q10
                    · have q10 := q9.2 h10
                      refine am_if (c := p0 = (63 : Int32)) (fun h11 => ?_) (fun h11 => ?_)
                      · have q11 := q10.1 h11
                        have e : fn10_staysInUrl p0 = fn10_staysInUrl_c72  := by
                          rw [fq10_staysInUrl]
                          rw [if_neg h1, if_neg h2, if_neg h3, if_neg h4, if_neg h5, if_neg h6, if_neg h7, if_neg h8, if_neg h9, if_neg h10, if_pos h11]
                        rw [e]
                        exact i72  _ rfl q11
                      · have q11 := q10.2 h11
                        refine am_if (c := p0 = (35 : Int32)) (fun h12 => ?_) (fun h12 => ?_)
                        · have q12 := q11.1 h12
                          have e : fn10_staysInUrl p0 = fn10_staysInUrl_c72  := by
                            rw [fq10_staysInUrl]
                            rw [if_neg h1, if_neg h2, if_neg h3, if_neg h4, if_neg h5, if_neg h6, if_neg h7, if_neg h8, if_neg h9, if_neg h10, if_neg h11, if_pos h12]
                          rw [e]
                          exact i72  _ rfl q12
                        · have e : fn10_staysInUrl p0 = (0 : Int32) := by
                            rw [fq10_staysInUrl]
                            rw [if_neg h1, if_neg h2, if_neg h3, if_neg h4, if_neg h5, if_neg h6, if_neg h7, if_neg h8, if_neg h9, if_neg h10, if_neg h11, if_neg h12]
                          rw [e] <;> rfl
abbrev pr10_staysInUrl : List am_V → List am_C → Prop := fun a w => ∃ (p0 : Int32), a = [.inl p0] ∧ w = [] ∧ wp10_staysInUrl p0
noncomputable def fm10_staysInUrl : am_M := fun a w => (fun (z : Int32) => (some (.inl z), [], 0, 0)) (fn10_staysInUrl (am_i (am_an a 0)))
theorem fe10_staysInUrl (p0 : Int32) : fm10_staysInUrl [.inl p0] [] = (some (.inl (fn10_staysInUrl p0)), [], 0, 0) := rfl
set_option maxRecDepth 100000 in
set_option maxHeartbeats 4000000 in
theorem rn10_staysInUrl : ∀ (a : List am_V) (w : List am_C), pr10_staysInUrl a w → ∃ nq, am_ev (am_mk kb10_staysInUrl (fm10_staysInUrl a w).2.2.1 (fm10_staysInUrl a w).2.2.2 w.length) [72] nq (0, am_L0 a 1, [], w, 0, 0) = some ((fm10_staysInUrl a w).1, (fm10_staysInUrl a w).2.1) := by
  rintro a w ⟨p0, rfl, rfl, hp⟩
  rw [fe10_staysInUrl p0]
  exact am_lf_ev (re10_staysInUrl p0 hp)
theorem rl10_staysInUrl : ∀ (a : List am_V) (w : List am_C), pr10_staysInUrl a w → a.length ≤ 1 := by
  rintro a w ⟨p0, rfl, rfl, hp⟩
  exact Nat.le_of_ble_eq_true rfl
set_option maxRecDepth 100000 in
set_option maxHeartbeats 4000000 in
theorem km10_staysInUrl {l : Launch} {E : (Nat → Prop) → State → Prop} {D : va_G} {ou : Nat → Nat} {ca : Nat → ClassId} (hE : am_EC E) : hg_Met l E D ou ca hy10_staysInUrl prog_12_method_59_code 1 (some .boolean) 0 pr10_staysInUrl fm10_staysInUrl := by
  refine am_met (B := kb10_staysInUrl) (cuts := [72]) (nt := 5) (by decide +kernel) rfl rfl (hg_tys_ok ca) ?_ (by decide) rl10_staysInUrl ?_ rn10_staysInUrl
  · exact fun t ht => List.mem_cons_of_mem _ (hg_arr t ht)
  · intro a w hp ad p e R s m args below meth c hR X hEs hnm
    have hR1 : 0 ≤ R.frames ∧ 0 ≤ R.locals := by rw [hR]; exact ⟨Nat.le_refl _, Nat.le_refl _⟩
    refine ⟨kd10_staysInUrl_ok, fun index ci fi mode hq => kf10_ok X.2.2.2.2.1 (index, ci, fi, mode) (am_as_mem hq), fun index ci fs hq => (am_no hq).elim, fun x v hq => (am_no hq).elim, ?_, fun o t n f hq => (am_no hq).elim, rfl, rfl, by rw [hR]; exact Nat.le_refl _, by rw [hR]; exact Nat.le_refl _⟩
    intro pc sel n0 pre0 f0 hq
    exact (am_no hq).elim
noncomputable def ki10_putUrl : List (Nat × Option (List Nat) × Nat × (List am_V → List am_C → Prop) × am_M) := [(1, some [], 1, pr10_isWord, fm10_isWord), (37, some [], 1, pr10_staysInUrl, fm10_staysInUrl), (55, none, 2, pr10_put, fm10_put), (83, none, 6, pr10_put5, fm10_put5), (92, none, 2, pr10_put, fm10_put), (97, none, 2, pr10_putHex, fm10_putHex)]
noncomputable def kb10_putUrl : am_B := (kd10_putUrl, am_as kf10, hn_ty, fun _ => none, fun _ => none, am_as ki10_putUrl, fun _ => none, 5, 4, none)
noncomputable def fn10_putUrl_c89 (s : hs) (v1 : Int32) : hs := (fn10_putHex (fn10_put s (37 : Int32)) v1)
def wp10_putUrl_c89 (s : hs) (v1 : Int32) : Prop := ((wp10_put s (37 : Int32)) ∧ (wp10_putHex (fn10_put s (37 : Int32)) v1))
set_option maxRecDepth 100000 in
set_option maxHeartbeats 4000000 in
theorem rc10_putUrl_89 (s : hs) (v1 : Int32) (j2 : Option am_V) (j3 : Option am_V) (g2 : am_loO 22 j2 = true) (g3 : am_loO 22 j3 = true) (hp : wp10_putUrl_c89 s v1) : am_lf (am_mk kb10_putUrl 0 0 22) [43, 47, 48, 89] (89, [some (.inr (.inl 0)), some (.inl v1), j2, j3], [], (hm_w s), 0, 0) = some (none, (hm_w (fn10_putUrl_c89 s v1))) := by
  unfold wp10_putUrl_c89 at hp
  refine am_lf_eq ?_
  generalize am_lf (am_mk kb10_putUrl 0 0 22) [43, 47, 48, 89] = kt
  refine am_cx (pre := pr10_put) (f := fm10_put) (r := (none, (hm_w (fn10_put s (37 : Int32))), 0, 0)) ?_ ?_ ?_ ?_
  · exact ⟨s, (37 : Int32), rfl, rfl, hp.1⟩
  · exact fe10_put s (37 : Int32)
  · exact (am_ac rfl (am_ac rfl (am_ac g2 (am_ac g3 am_a0))))
  refine am_cx (pre := pr10_putHex) (f := fm10_putHex) (r := (none, (hm_w (fn10_putHex (fn10_put s (37 : Int32)) v1)), 0, 0)) ?_ ?_ ?_ ?_
  · exact ⟨(fn10_put s (37 : Int32)), v1, rfl, rfl, hp.2⟩
  · exact fe10_putHex (fn10_put s (37 : Int32)) v1
  · exact (am_ac rfl (am_ac rfl (am_ac g2 (am_ac g3 am_a0))))
  have e : fn10_putUrl_c89 s v1 = (fn10_putHex (fn10_put s (37 : Int32)) v1) := by
    rw [fn10_putUrl_c89]
  rw [e] <;> rfl
noncomputable def fn10_putUrl_c48 (s : hs) (v1 : Int32) (v2 : Int32) (u0 : Int32) : hs := (if u0 = 0 then (if v1 = (38 : Int32) then (if (2 : Int32) ≤ v2 then (fn10_putUrl_c89 s v1) else (fn10_put5 s (38 : Int32) (97 : Int32) (109 : Int32) (112 : Int32) (59 : Int32))) else (fn10_putUrl_c89 s v1)) else (fn10_put s v1))
def wp10_putUrl_c48 (s : hs) (v1 : Int32) (v2 : Int32) (u0 : Int32) : Prop := ((u0 = 0 → ((v1 = (38 : Int32) → (((2 : Int32) ≤ v2 → (wp10_putUrl_c89 s v1)) ∧ (¬ (2 : Int32) ≤ v2 → (wp10_put5 s (38 : Int32) (97 : Int32) (109 : Int32) (112 : Int32) (59 : Int32))))) ∧ (¬ v1 = (38 : Int32) → (wp10_putUrl_c89 s v1)))) ∧ (¬ u0 = 0 → (wp10_put s v1)))
set_option maxRecDepth 100000 in
set_option maxHeartbeats 4000000 in
theorem rc10_putUrl_48 (s : hs) (v1 : Int32) (v2 : Int32) (u0 : Int32) (j3 : Option am_V) (g3 : am_loO 22 j3 = true) (hp : wp10_putUrl_c48 s v1 v2 u0) : am_lf (am_mk kb10_putUrl 0 0 22) [43, 47, 48, 89] (48, [some (.inr (.inl 0)), some (.inl v1), some (.inl v2), j3], [.inl u0], (hm_w s), 0, 0) = some (none, (hm_w (fn10_putUrl_c48 s v1 v2 u0))) := by
  unfold wp10_putUrl_c48 at hp
  have i89 := @rc10_putUrl_89
  refine am_lf_eq ?_
  generalize am_lf (am_mk kb10_putUrl 0 0 22) [43, 47, 48, 89] = kt at i89 ⊢
  refine am_if (c := u0 = 0) (fun h1 => ?_) (fun h1 => ?_)
  · have q1 := hp.1 h1
    refine am_if (c := v1 = (38 : Int32)) (fun h2 => ?_) (fun h2 => ?_)
    · have q2 := q1.1 h2
      refine am_if (c := (2 : Int32) ≤ v2) (fun h3 => ?_) (fun h3 => ?_)
      · have q3 := q2.1 h3
        have e : fn10_putUrl_c48 s v1 v2 u0 = fn10_putUrl_c89 s v1 := by
          rw [fn10_putUrl_c48]
          rw [if_pos h1, if_pos h2, if_pos h3]
        rw [e]
        exact i89 s v1 _ _ rfl rfl q3
      · have q3 := q2.2 h3
        refine am_cx (pre := pr10_put5) (f := fm10_put5) (r := (none, (hm_w (fn10_put5 s (38 : Int32) (97 : Int32) (109 : Int32) (112 : Int32) (59 : Int32))), 0, 0)) ?_ ?_ ?_ ?_
        · exact ⟨s, (38 : Int32), (97 : Int32), (109 : Int32), (112 : Int32), (59 : Int32), rfl, rfl, q3⟩
        · exact fe10_put5 s (38 : Int32) (97 : Int32) (109 : Int32) (112 : Int32) (59 : Int32)
        · exact rfl
        have e : fn10_putUrl_c48 s v1 v2 u0 = (fn10_put5 s (38 : Int32) (97 : Int32) (109 : Int32) (112 : Int32) (59 : Int32)) := by
          rw [fn10_putUrl_c48]
          rw [if_pos h1, if_pos h2, if_neg h3]
        rw [e] <;> rfl
    · have q2 := q1.2 h2
      have e : fn10_putUrl_c48 s v1 v2 u0 = fn10_putUrl_c89 s v1 := by
        rw [fn10_putUrl_c48]
        rw [if_pos h1, if_neg h2]
      rw [e]
      exact i89 s v1 _ _ rfl rfl q2
  · have q1 := hp.2 h1
    refine am_cx (pre := pr10_put) (f := fm10_put) (r := (none, (hm_w (fn10_put s v1)), 0, 0)) ?_ ?_ ?_ ?_
    · exact ⟨s, v1, rfl, rfl, q1⟩
    · exact fe10_put s v1
    · exact rfl
    have e : fn10_putUrl_c48 s v1 v2 u0 = (fn10_put s v1) := by
      rw [fn10_putUrl_c48]
      rw [if_neg h1]
    rw [e] <;> rfl
noncomputable def fn10_putUrl_c43 (s : hs) (v1 : Int32) (v2 : Int32) : hs := (fn10_putUrl_c48 s v1 v2 (1 : Int32))
def wp10_putUrl_c43 (s : hs) (v1 : Int32) (v2 : Int32) : Prop := (wp10_putUrl_c48 s v1 v2 (1 : Int32))
set_option maxRecDepth 100000 in
set_option maxHeartbeats 4000000 in
theorem rc10_putUrl_43 (s : hs) (v1 : Int32) (v2 : Int32) (j3 : Option am_V) (g3 : am_loO 22 j3 = true) (hp : wp10_putUrl_c43 s v1 v2) : am_lf (am_mk kb10_putUrl 0 0 22) [43, 47, 48, 89] (43, [some (.inr (.inl 0)), some (.inl v1), some (.inl v2), j3], [], (hm_w s), 0, 0) = some (none, (hm_w (fn10_putUrl_c43 s v1 v2))) := by
  unfold wp10_putUrl_c43 at hp
  have i48 := @rc10_putUrl_48
  refine am_lf_eq ?_
  generalize am_lf (am_mk kb10_putUrl 0 0 22) [43, 47, 48, 89] = kt at i48 ⊢
  have e : fn10_putUrl_c43 s v1 v2 = fn10_putUrl_c48 s v1 v2 (1 : Int32) := by
    rw [fn10_putUrl_c43]
  rw [e]
  exact i48 s v1 v2 (1 : Int32) _ g3 hp
noncomputable def fn10_putUrl_c47 (s : hs) (v1 : Int32) (v2 : Int32) : hs := (fn10_putUrl_c48 s v1 v2 (0 : Int32))
def wp10_putUrl_c47 (s : hs) (v1 : Int32) (v2 : Int32) : Prop := (wp10_putUrl_c48 s v1 v2 (0 : Int32))
set_option maxRecDepth 100000 in
set_option maxHeartbeats 4000000 in
theorem rc10_putUrl_47 (s : hs) (v1 : Int32) (v2 : Int32) (j3 : Option am_V) (g3 : am_loO 22 j3 = true) (hp : wp10_putUrl_c47 s v1 v2) : am_lf (am_mk kb10_putUrl 0 0 22) [43, 47, 48, 89] (47, [some (.inr (.inl 0)), some (.inl v1), some (.inl v2), j3], [], (hm_w s), 0, 0) = some (none, (hm_w (fn10_putUrl_c47 s v1 v2))) := by
  unfold wp10_putUrl_c47 at hp
  have i48 := @rc10_putUrl_48
  refine am_lf_eq ?_
  generalize am_lf (am_mk kb10_putUrl 0 0 22) [43, 47, 48, 89] = kt at i48 ⊢
  have e : fn10_putUrl_c47 s v1 v2 = fn10_putUrl_c48 s v1 v2 (0 : Int32) := by
    rw [fn10_putUrl_c47]
  rw [e]
  exact i48 s v1 v2 (0 : Int32) _ g3 hp
noncomputable def fn10_putUrl (s : hs) (p0 : Int32) (p1 : Int32) : hs := Classical.choose (⟨_, rfl⟩ : ∃ z : hs, z = (if (fn10_isWord p0) = 0 then (if p0 = (45 : Int32) then (fn10_putUrl_c43 s p0 p1) else (if p0 = (46 : Int32) then (fn10_putUrl_c43 s p0 p1) else (if p0 = (95 : Int32) then (fn10_putUrl_c43 s p0 p1) else (if p0 = (126 : Int32) then (fn10_putUrl_c43 s p0 p1) else (if (2 : Int32) ≤ p1 then (fn10_putUrl_c47 s p0 p1) else (if (fn10_staysInUrl p0) = 0 then (fn10_putUrl_c47 s p0 p1) else (fn10_putUrl_c43 s p0 p1))))))) else (fn10_putUrl_c43 s p0 p1)))
theorem fq10_putUrl (s : hs) (p0 : Int32) (p1 : Int32) : fn10_putUrl s p0 p1 = (if (fn10_isWord p0) = 0 then (if p0 = (45 : Int32) then (fn10_putUrl_c43 s p0 p1) else (if p0 = (46 : Int32) then (fn10_putUrl_c43 s p0 p1) else (if p0 = (95 : Int32) then (fn10_putUrl_c43 s p0 p1) else (if p0 = (126 : Int32) then (fn10_putUrl_c43 s p0 p1) else (if (2 : Int32) ≤ p1 then (fn10_putUrl_c47 s p0 p1) else (if (fn10_staysInUrl p0) = 0 then (fn10_putUrl_c47 s p0 p1) else (fn10_putUrl_c43 s p0 p1))))))) else (fn10_putUrl_c43 s p0 p1)) := Classical.choose_spec (⟨_, rfl⟩ : ∃ z : hs, z = (if (fn10_isWord p0) = 0 then (if p0 = (45 : Int32) then (fn10_putUrl_c43 s p0 p1) else (if p0 = (46 : Int32) then (fn10_putUrl_c43 s p0 p1) else (if p0 = (95 : Int32) then (fn10_putUrl_c43 s p0 p1) else (if p0 = (126 : Int32) then (fn10_putUrl_c43 s p0 p1) else (if (2 : Int32) ≤ p1 then (fn10_putUrl_c47 s p0 p1) else (if (fn10_staysInUrl p0) = 0 then (fn10_putUrl_c47 s p0 p1) else (fn10_putUrl_c43 s p0 p1))))))) else (fn10_putUrl_c43 s p0 p1)))
def wp10_putUrl (s : hs) (p0 : Int32) (p1 : Int32) : Prop := ((wp10_isWord p0) ∧ (((fn10_isWord p0) = 0 → ((p0 = (45 : Int32) → (wp10_putUrl_c43 s p0 p1)) ∧ (¬ p0 = (45 : Int32) → ((p0 = (46 : Int32) → (wp10_putUrl_c43 s p0 p1)) ∧ (¬ p0 = (46 : Int32) → ((p0 = (95 : Int32) → (wp10_putUrl_c43 s p0 p1)) ∧ (¬ p0 = (95 : Int32) → ((p0 = (126 : Int32) → (wp10_putUrl_c43 s p0 p1)) ∧ (¬ p0 = (126 : Int32) → (((2 : Int32) ≤ p1 → (wp10_putUrl_c47 s p0 p1)) ∧ (¬ (2 : Int32) ≤ p1 → ((wp10_staysInUrl p0) ∧ (((fn10_staysInUrl p0) = 0 → (wp10_putUrl_c47 s p0 p1)) ∧ (¬ (fn10_staysInUrl p0) = 0 → (wp10_putUrl_c43 s p0 p1))))))))))))))) ∧ (¬ (fn10_isWord p0) = 0 → (wp10_putUrl_c43 s p0 p1))))
set_option maxRecDepth 100000 in
set_option maxHeartbeats 4000000 in
theorem re10_putUrl (s : hs) (p0 : Int32) (p1 : Int32) (hp : wp10_putUrl s p0 p1) : am_lf (am_mk kb10_putUrl 0 0 22) [43, 47, 48, 89] (0, am_L0 [.inr (.inl 0), .inl p0, .inl p1] 4, [], (hm_w s), 0, 0) = some (none, (hm_w (fn10_putUrl s p0 p1))) := by
  unfold wp10_putUrl at hp
  have i43 := @rc10_putUrl_43
  have i47 := @rc10_putUrl_47
  refine am_lf_eq ?_
  generalize am_lf (am_mk kb10_putUrl 0 0 22) [43, 47, 48, 89] = kt at i43 i47 ⊢
  refine am_cy (pre := pr10_isWord) (f := fm10_isWord) (a' := [.inl p0]) (wc := []) (w' := (hm_w s)) (r := (some (.inl (fn10_isWord p0)), [], 0, 0)) ?_ ?_ ?_ ?_ ?_ ?_ ?_ ?_ ?_ ?_
  · exact am_sow0 _
  · rfl
  · rfl
  · exact am_sub0 _
  · exact ⟨p0, rfl, rfl, hp.1⟩
  · exact fe10_isWord p0
  · exact rfl
  · rfl
  · exact am_mix0 _
  refine am_if (c := (fn10_isWord p0) = 0) (fun h1 => ?_) (fun h1 => ?_)
  · have q1 := hp.2.1 h1
    refine am_if (c := p0 = (45 : Int32)) (fun h2 => ?_) (fun h2 => ?_)
    · have q2 := q1.1 h2
      have e : fn10_putUrl s p0 p1 = fn10_putUrl_c43 s p0 p1 := by
        rw [fq10_putUrl]
        rw [if_pos h1, if_pos h2]
      rw [e]
      exact i43 s p0 p1 _ rfl q2
    · have q2 := q1.2 h2
      refine am_if (c := p0 = (46 : Int32)) (fun h3 => ?_) (fun h3 => ?_)
      · have q3 := q2.1 h3
        have e : fn10_putUrl s p0 p1 = fn10_putUrl_c43 s p0 p1 := by
          rw [fq10_putUrl]
          rw [if_pos h1, if_neg h2, if_pos h3]
        rw [e]
        exact i43 s p0 p1 _ rfl q3
      · have q3 := q2.2 h3
        refine am_if (c := p0 = (95 : Int32)) (fun h4 => ?_) (fun h4 => ?_)
        · have q4 := q3.1 h4
          have e : fn10_putUrl s p0 p1 = fn10_putUrl_c43 s p0 p1 := by
            rw [fq10_putUrl]
            rw [if_pos h1, if_neg h2, if_neg h3, if_pos h4]
          rw [e]
          exact i43 s p0 p1 _ rfl q4
        · have q4 := q3.2 h4
          refine am_if (c := p0 = (126 : Int32)) (fun h5 => ?_) (fun h5 => ?_)
          · have q5 := q4.1 h5
            have e : fn10_putUrl s p0 p1 = fn10_putUrl_c43 s p0 p1 := by
              rw [fq10_putUrl]
              rw [if_pos h1, if_neg h2, if_neg h3, if_neg h4, if_pos h5]
            rw [e]
            exact i43 s p0 p1 _ rfl q5
          · have q5 := q4.2 h5
            refine am_if (c := (2 : Int32) ≤ p1) (fun h6 => ?_) (fun h6 => ?_)
            · have q6 := q5.1 h6
              have e : fn10_putUrl s p0 p1 = fn10_putUrl_c47 s p0 p1 := by
                rw [fq10_putUrl]
                rw [if_pos h1, if_neg h2, if_neg h3, if_neg h4, if_neg h5, if_pos h6]
              rw [e]
              exact i47 s p0 p1 _ rfl q6
            · have q6 := q5.2 h6
              refine am_cy (pre := pr10_staysInUrl) (f := fm10_staysInUrl) (a' := [.inl p0]) (wc := []) (w' := (hm_w s)) (r := (some (.inl (fn10_staysInUrl p0)), [], 0, 0)) ?_ ?_ ?_ ?_ ?_ ?_ ?_ ?_ ?_ ?_
              · exact am_sow0 _
              · rfl
              · rfl
              · exact am_sub0 _
              · exact ⟨p0, rfl, rfl, q6.1⟩
              · exact fe10_staysInUrl p0
              · exact rfl
              · rfl
              · exact am_mix0 _
              refine am_if (c := (fn10_staysInUrl p0) = 0) (fun h7 => ?_) (fun h7 => ?_)
              · have q7 := q6.2.1 h7
                have e : fn10_putUrl s p0 p1 = fn10_putUrl_c47 s p0 p1 := by
                  rw [fq10_putUrl]
                  rw [if_pos h1, if_neg h2, if_neg h3, if_neg h4, if_neg h5, if_neg h6, if_pos h7]
                rw [e]
                exact i47 s p0 p1 _ rfl q7
              · have q7 := q6.2.2 h7
                have e : fn10_putUrl s p0 p1 = fn10_putUrl_c43 s p0 p1 := by
                  rw [fq10_putUrl]
                  rw [if_pos h1, if_neg h2, if_neg h3, if_neg h4, if_neg h5, if_neg h6, if_neg h7]
                rw [e]
                exact i43 s p0 p1 _ rfl q7
  · have q1 := hp.2.2 h1
    have e : fn10_putUrl s p0 p1 = fn10_putUrl_c43 s p0 p1 := by
      rw [fq10_putUrl]
      rw [if_neg h1]
    rw [e]
    exact i43 s p0 p1 _ rfl q1
abbrev pr10_putUrl : List am_V → List am_C → Prop := fun a w => ∃ (s : hs) (p0 : Int32) (p1 : Int32), a = [.inr (.inl 0), .inl p0, .inl p1] ∧ w = (hm_w s) ∧ wp10_putUrl s p0 p1
noncomputable def fm10_putUrl : am_M := fun a w => (fun (z : hs) => (none, (hm_w z), 0, 0)) (fn10_putUrl (hm_st w 0) (am_i (am_an a 1)) (am_i (am_an a 2)))
theorem fe10_putUrl (s : hs) (p0 : Int32) (p1 : Int32) : fm10_putUrl [.inr (.inl 0), .inl p0, .inl p1] (hm_w s) = (none, (hm_w (fn10_putUrl s p0 p1)), 0, 0) := rfl
set_option maxRecDepth 100000 in
set_option maxHeartbeats 4000000 in
theorem rn10_putUrl : ∀ (a : List am_V) (w : List am_C), pr10_putUrl a w → ∃ nq, am_ev (am_mk kb10_putUrl (fm10_putUrl a w).2.2.1 (fm10_putUrl a w).2.2.2 w.length) [43, 47, 48, 89] nq (0, am_L0 a 4, [], w, 0, 0) = some ((fm10_putUrl a w).1, (fm10_putUrl a w).2.1) := by
  rintro a w ⟨s, p0, p1, rfl, rfl, hp⟩
  rw [fe10_putUrl s p0 p1]
  exact am_lf_ev (re10_putUrl s p0 p1 hp)
theorem rl10_putUrl : ∀ (a : List am_V) (w : List am_C), pr10_putUrl a w → a.length ≤ 4 := by
  rintro a w ⟨s, p0, p1, rfl, rfl, hp⟩
  exact Nat.le_of_ble_eq_true rfl
theorem pa10_putUrl : ∀ a w, pr10_putUrl a w → ∃ q a' ci fs r, a = .inr (.inl q) :: a' ∧ w[q]? = some (.inr (ci, fs)) ∧ hn_cl[ci]? = some r ∧ r.1 = hn_R10 := by
  rintro a w ⟨s, p0, p1, rfl, rfl, hp⟩
  exact ⟨0, _, 10, _, _, rfl, rfl, rfl, rfl⟩
set_option maxRecDepth 100000 in
set_option maxHeartbeats 4000000 in
theorem km10_putUrl {l : Launch} {E : (Nat → Prop) → State → Prop} {D : va_G} {ou : Nat → Nat} {ca : Nat → ClassId} (hE : am_EC E) : hg_Met l E D ou ca hy10_putUrl prog_12_method_60_code 4 none 2 pr10_putUrl fm10_putUrl := by
  refine am_met (B := kb10_putUrl) (cuts := [43, 47, 48, 89]) (nt := 5) (by decide +kernel) rfl rfl (hg_tys_ok ca) ?_ (by decide) rl10_putUrl ?_ rn10_putUrl
  · exact fun t ht => List.mem_cons_of_mem _ (hg_arr t ht)
  · intro a w hp ad p e R s m args below meth c hR X hEs hnm
    have hR1 : 2 ≤ R.frames ∧ 80 ≤ R.locals := by rw [hR]; exact ⟨Nat.le_refl _, Nat.le_refl _⟩
    refine ⟨kd10_putUrl_ok, fun index ci fi mode hq => kf10_ok X.2.2.2.2.1 (index, ci, fi, mode) (am_as_mem hq), fun index ci fs hq => (am_no hq).elim, fun x v hq => (am_no hq).elim, ?_, fun o t n f hq => (am_no hq).elim, rfl, rfl, by rw [hR]; exact Nat.le_refl _, by rw [hR]; exact Nat.le_refl _⟩
    intro pc sel n0 pre0 f0 hq
    have hz : ∀ q ∈ ki10_putUrl, am_CK p l e R s m args below meth c D hn_cl (va_A (am_w ad ou ca w) s.heap.size) ou ca 4 q.1 q.2.2.1 q.2.2.2.1 q.2.2.2.2 := by
      refine am_allc (am_ck_S (n := 1) X hEs hE (km10_isWord hE) (hg_good (gw_mem 1154 (by decide +kernel))) rfl (List.mem_cons_of_mem _ (gw_mem 76 (by decide +kernel))) (List.mem_cons_of_mem _ (gw_mem 1152 (by decide +kernel))) (List.mem_cons_of_mem _ (gw_mem 1153 (by decide +kernel))) (by decide +kernel) ⟨Nat.le_trans (by decide) hR1.1, Nat.le_trans (by decide) hR1.2⟩ (kd10_putUrl_ok (1, .invokestatic 140, 3) (List.mem_of_getElem? (i := 1) rfl))) (am_allc (am_ck_S (n := 1) X hEs hE (km10_staysInUrl hE) (hg_good (gw_mem 1339 (by decide +kernel))) rfl (List.mem_cons_of_mem _ (gw_mem 76 (by decide +kernel))) (List.mem_cons_of_mem _ (gw_mem 1337 (by decide +kernel))) (List.mem_cons_of_mem _ (gw_mem 1338 (by decide +kernel))) (by decide +kernel) ⟨Nat.le_trans (by decide) hR1.1, Nat.le_trans (by decide) hR1.2⟩ (kd10_putUrl_ok (37, .invokestatic 267, 3) (List.mem_of_getElem? (i := 19) rfl))) (am_allc (am_ck_V (n := 1) X hEs hE (km10_put hE) (hg_good (gw_mem 1292 (by decide +kernel))) rfl (List.mem_cons_of_mem _ (gw_mem 76 (by decide +kernel))) (List.mem_cons_of_mem _ (gw_mem 1289 (by decide +kernel))) (List.mem_cons_of_mem _ (gw_mem 1291 (by decide +kernel))) (List.mem_cons_of_mem _ (gw_mem 49 (by decide +kernel))) pa10_put (by decide +kernel) ⟨Nat.le_trans (by decide) hR1.1, Nat.le_trans (by decide) hR1.2⟩ (kd10_putUrl_ok (55, .invokevirtual 259, 3) (List.mem_of_getElem? (i := 29) rfl))) (am_allc (am_ck_V (n := 5) X hEs hE (km10_put5 hE) (hg_good (gw_mem 1320 (by decide +kernel))) rfl (List.mem_cons_of_mem _ (gw_mem 76 (by decide +kernel))) (List.mem_cons_of_mem _ (gw_mem 1317 (by decide +kernel))) (List.mem_cons_of_mem _ (gw_mem 1319 (by decide +kernel))) (List.mem_cons_of_mem _ (gw_mem 56 (by decide +kernel))) pa10_put5 (by decide +kernel) ⟨Nat.le_trans (by decide) hR1.1, Nat.le_trans (by decide) hR1.2⟩ (kd10_putUrl_ok (83, .invokevirtual 263, 3) (List.mem_of_getElem? (i := 43) rfl))) (am_allc (am_ck_V (n := 1) X hEs hE (km10_put hE) (hg_good (gw_mem 1292 (by decide +kernel))) rfl (List.mem_cons_of_mem _ (gw_mem 76 (by decide +kernel))) (List.mem_cons_of_mem _ (gw_mem 1289 (by decide +kernel))) (List.mem_cons_of_mem _ (gw_mem 1291 (by decide +kernel))) (List.mem_cons_of_mem _ (gw_mem 49 (by decide +kernel))) pa10_put (by decide +kernel) ⟨Nat.le_trans (by decide) hR1.1, Nat.le_trans (by decide) hR1.2⟩ (kd10_putUrl_ok (92, .invokevirtual 259, 3) (List.mem_of_getElem? (i := 47) rfl))) (am_allc (am_ck_V (n := 1) X hEs hE (km10_putHex hE) (hg_good (gw_mem 1343 (by decide +kernel))) rfl (List.mem_cons_of_mem _ (gw_mem 76 (by decide +kernel))) (List.mem_cons_of_mem _ (gw_mem 1340 (by decide +kernel))) (List.mem_cons_of_mem _ (gw_mem 1342 (by decide +kernel))) (List.mem_cons_of_mem _ (gw_mem 61 (by decide +kernel))) pa10_putHex (by decide +kernel) ⟨Nat.le_trans (by decide) hR1.1, Nat.le_trans (by decide) hR1.2⟩ (kd10_putUrl_ok (97, .invokevirtual 270, 3) (List.mem_of_getElem? (i := 50) rfl))) (am_all0))))))
    exact hz _ (am_as_mem hq)
noncomputable def ki10_small : List (Nat × Option (List Nat) × Nat × (List am_V → List am_C → Prop) × am_M) := []
noncomputable def kb10_small : am_B := (kd10_small, am_as kf10, hn_ty, fun _ => none, fun _ => none, am_as ki10_small, fun _ => none, 5, 2, (some .char))
noncomputable def fn10_small (s : hs) (p0 : Int32) : Int32 := Classical.choose (⟨_, rfl⟩ : ∃ z : Int32, z = (if p0 < (65 : Int32) then p0 else (if (90 : Int32) < p0 then p0 else ((((p0 + (32 : Int32))).toUInt32 % 65536).toInt32))))
theorem fq10_small (s : hs) (p0 : Int32) : fn10_small s p0 = (if p0 < (65 : Int32) then p0 else (if (90 : Int32) < p0 then p0 else ((((p0 + (32 : Int32))).toUInt32 % 65536).toInt32))) := Classical.choose_spec (⟨_, rfl⟩ : ∃ z : Int32, z = (if p0 < (65 : Int32) then p0 else (if (90 : Int32) < p0 then p0 else ((((p0 + (32 : Int32))).toUInt32 % 65536).toInt32))))
def wp10_small (s : hs) (p0 : Int32) : Prop := ((p0 < (65 : Int32) → (am_fit .char (.inl p0) = true)) ∧ (¬ p0 < (65 : Int32) → (((90 : Int32) < p0 → (am_fit .char (.inl p0) = true)) ∧ (¬ (90 : Int32) < p0 → (am_fit .char (.inl ((((p0 + (32 : Int32))).toUInt32 % 65536).toInt32)) = true)))))
set_option maxRecDepth 100000 in
set_option maxHeartbeats 4000000 in
theorem re10_small (s : hs) (p0 : Int32) (hp : wp10_small s p0) : am_lf (am_mk kb10_small 0 0 22) [] (0, am_L0 [.inr (.inl 0), .inl p0] 2, [], (hm_w s), 0, 0) = some (some (.inl (fn10_small s p0)), (hm_w s)) := by
  unfold wp10_small at hp
  refine am_lf_eq ?_
  generalize am_lf (am_mk kb10_small 0 0 22) [] = kt
  refine am_if (c := p0 < (65 : Int32)) (fun h1 => ?_) (fun h1 => ?_)
  · have q1 := hp.1 h1
    refine am_ci (c := am_fit .char (.inl p0) = true) q1 ?_
    have e : fn10_small s p0 = p0 := by
      rw [fq10_small]
      rw [if_pos h1]
    rw [e] <;> rfl
  · have q1 := hp.2 h1
    refine am_if (c := (90 : Int32) < p0) (fun h2 => ?_) (fun h2 => ?_)
    · have q2 := q1.1 h2
      refine am_ci (c := am_fit .char (.inl p0) = true) q2 ?_
      have e : fn10_small s p0 = p0 := by
        rw [fq10_small]
        rw [if_neg h1, if_pos h2]
      rw [e] <;> rfl
    · have q2 := q1.2 h2
      refine am_ci (c := am_fit .char (.inl ((((p0 + (32 : Int32))).toUInt32 % 65536).toInt32)) = true) q2 ?_
      have e : fn10_small s p0 = ((((p0 + (32 : Int32))).toUInt32 % 65536).toInt32) := by
        rw [fq10_small]
        rw [if_neg h1, if_neg h2]
      rw [e] <;> rfl
abbrev pr10_small : List am_V → List am_C → Prop := fun a w => ∃ (s : hs) (p0 : Int32), a = [.inr (.inl 0), .inl p0] ∧ w = (hm_w s) ∧ wp10_small s p0
noncomputable def fm10_small : am_M := fun a w => (fun (z : Int32) => (some (.inl z), (hm_w (hm_st w 0)), 0, 0)) (fn10_small (hm_st w 0) (am_i (am_an a 1)))
theorem fe10_small (s : hs) (p0 : Int32) : fm10_small [.inr (.inl 0), .inl p0] (hm_w s) = (some (.inl (fn10_small s p0)), (hm_w s), 0, 0) := rfl
set_option maxRecDepth 100000 in
set_option maxHeartbeats 4000000 in
theorem rn10_small : ∀ (a : List am_V) (w : List am_C), pr10_small a w → ∃ nq, am_ev (am_mk kb10_small (fm10_small a w).2.2.1 (fm10_small a w).2.2.2 w.length) [] nq (0, am_L0 a 2, [], w, 0, 0) = some ((fm10_small a w).1, (fm10_small a w).2.1) := by
  rintro a w ⟨s, p0, rfl, rfl, hp⟩
  rw [fe10_small s p0]
  exact am_lf_ev (re10_small s p0 hp)
theorem rl10_small : ∀ (a : List am_V) (w : List am_C), pr10_small a w → a.length ≤ 2 := by
  rintro a w ⟨s, p0, rfl, rfl, hp⟩
  exact Nat.le_of_ble_eq_true rfl
theorem pa10_small : ∀ a w, pr10_small a w → ∃ q a' ci fs r, a = .inr (.inl q) :: a' ∧ w[q]? = some (.inr (ci, fs)) ∧ hn_cl[ci]? = some r ∧ r.1 = hn_R10 := by
  rintro a w ⟨s, p0, rfl, rfl, hp⟩
  exact ⟨0, _, 10, _, _, rfl, rfl, rfl, rfl⟩
set_option maxRecDepth 100000 in
set_option maxHeartbeats 4000000 in
theorem km10_small {l : Launch} {E : (Nat → Prop) → State → Prop} {D : va_G} {ou : Nat → Nat} {ca : Nat → ClassId} (hE : am_EC E) : hg_Met l E D ou ca hy10_small prog_12_method_61_code 2 (some .char) 0 pr10_small fm10_small := by
  refine am_met (B := kb10_small) (cuts := []) (nt := 5) (by decide +kernel) rfl rfl (hg_tys_ok ca) ?_ (by decide) rl10_small ?_ rn10_small
  · exact fun t ht => List.mem_cons_of_mem _ (hg_arr t ht)
  · intro a w hp ad p e R s m args below meth c hR X hEs hnm
    have hR1 : 0 ≤ R.frames ∧ 0 ≤ R.locals := by rw [hR]; exact ⟨Nat.le_refl _, Nat.le_refl _⟩
    refine ⟨kd10_small_ok, fun index ci fi mode hq => kf10_ok X.2.2.2.2.1 (index, ci, fi, mode) (am_as_mem hq), fun index ci fs hq => (am_no hq).elim, fun x v hq => (am_no hq).elim, ?_, fun o t n f hq => (am_no hq).elim, rfl, rfl, by rw [hR]; exact Nat.le_refl _, by rw [hR]; exact Nat.le_refl _⟩
    intro pc sel n0 pre0 f0 hq
    exact (am_no hq).elim
noncomputable def ki10_isSafe : List (Nat × Option (List Nat) × Nat × (List am_V → List am_C → Prop) × am_M) := [(12, none, 2, pr10_small, fm10_small), (26, none, 2, pr10_small, fm10_small), (40, none, 2, pr10_small, fm10_small), (54, none, 2, pr10_small, fm10_small), (68, none, 2, pr10_small, fm10_small), (175, none, 2, pr10_small, fm10_small)]
noncomputable def kb10_isSafe : am_B := (kd10_isSafe, am_as kf10, hn_ty, fun _ => none, fun _ => none, am_as ki10_isSafe, fun _ => none, 5, 11, (some .boolean))
noncomputable def fn10_isSafe_c200 (s : hs) : Int32 := (1 : Int32)
def wp10_isSafe_c200 (s : hs) : Prop := True
set_option maxRecDepth 100000 in
set_option maxHeartbeats 4000000 in
theorem rc10_isSafe_200 (s : hs) (j1 : Option am_V) (j2 : Option am_V) (j3 : Option am_V) (j4 : Option am_V) (j5 : Option am_V) (j6 : Option am_V) (j7 : Option am_V) (j8 : Option am_V) (j9 : Option am_V) (j10 : Option am_V) (g1 : am_loO 22 j1 = true) (g2 : am_loO 22 j2 = true) (g3 : am_loO 22 j3 = true) (g4 : am_loO 22 j4 = true) (g5 : am_loO 22 j5 = true) (g6 : am_loO 22 j6 = true) (g7 : am_loO 22 j7 = true) (g8 : am_loO 22 j8 = true) (g9 : am_loO 22 j9 = true) (g10 : am_loO 22 j10 = true) (hp : wp10_isSafe_c200 s) : am_lf (am_mk kb10_isSafe 0 0 22) [17, 31, 45, 59, 73, 118, 122, 123, 187, 188, 200] (200, [some (.inr (.inl 0)), j1, j2, j3, j4, j5, j6, j7, j8, j9, j10], [], (hm_w s), 0, 0) = some (some (.inl (fn10_isSafe_c200 s)), (hm_w s)) := by
  unfold wp10_isSafe_c200 at hp
  refine am_lf_eq ?_
  generalize am_lf (am_mk kb10_isSafe 0 0 22) [17, 31, 45, 59, 73, 118, 122, 123, 187, 188, 200] = kt
  have e : fn10_isSafe_c200 s = (1 : Int32) := by
    rw [fn10_isSafe_c200]
  rw [e] <;> rfl
noncomputable def fn10_isSafe_c188 (s : hs) (v9 : Int32) (u0 : Int32) : Int32 := (if v9 = 0 then (if u0 = 0 then (0 : Int32) else (fn10_isSafe_c200 s)) else (fn10_isSafe_c200 s))
def wp10_isSafe_c188 (s : hs) (v9 : Int32) (u0 : Int32) : Prop := ((v9 = 0 → ((u0 = 0 → True) ∧ (¬ u0 = 0 → (wp10_isSafe_c200 s)))) ∧ (¬ v9 = 0 → (wp10_isSafe_c200 s)))
set_option maxRecDepth 100000 in
set_option maxHeartbeats 4000000 in
theorem rc10_isSafe_188 (s : hs) (v9 : Int32) (u0 : Int32) (j1 : Option am_V) (j2 : Option am_V) (j3 : Option am_V) (j4 : Option am_V) (j5 : Option am_V) (j6 : Option am_V) (j7 : Option am_V) (j8 : Option am_V) (j10 : Option am_V) (g1 : am_loO 22 j1 = true) (g2 : am_loO 22 j2 = true) (g3 : am_loO 22 j3 = true) (g4 : am_loO 22 j4 = true) (g5 : am_loO 22 j5 = true) (g6 : am_loO 22 j6 = true) (g7 : am_loO 22 j7 = true) (g8 : am_loO 22 j8 = true) (g10 : am_loO 22 j10 = true) (hp : wp10_isSafe_c188 s v9 u0) : am_lf (am_mk kb10_isSafe 0 0 22) [17, 31, 45, 59, 73, 118, 122, 123, 187, 188, 200] (188, [some (.inr (.inl 0)), j1, j2, j3, j4, j5, j6, j7, j8, some (.inl v9), j10], [.inl u0], (hm_w s), 0, 0) = some (some (.inl (fn10_isSafe_c188 s v9 u0)), (hm_w s)) := by
  unfold wp10_isSafe_c188 at hp
  have i200 := @rc10_isSafe_200
  refine am_lf_eq ?_
  generalize am_lf (am_mk kb10_isSafe 0 0 22) [17, 31, 45, 59, 73, 118, 122, 123, 187, 188, 200] = kt at i200 ⊢
  refine am_if (c := v9 = 0) (fun h1 => ?_) (fun h1 => ?_)
  · have q1 := hp.1 h1
    refine am_if (c := u0 = 0) (fun h2 => ?_) (fun h2 => ?_)
    · have e : fn10_isSafe_c188 s v9 u0 = (0 : Int32) := by
        rw [fn10_isSafe_c188]
        rw [if_pos h1, if_pos h2]
      rw [e] <;> rfl
    · have q2 := q1.2 h2
      have e : fn10_isSafe_c188 s v9 u0 = fn10_isSafe_c200 s := by
        rw [fn10_isSafe_c188]
        rw [if_pos h1, if_neg h2]
      rw [e]
      exact i200 s _ _ _ _ _ _ _ _ _ _ g1 g2 g3 g4 g5 g6 g7 g8 rfl rfl q2
  · have q1 := hp.2 h1
    have e : fn10_isSafe_c188 s v9 u0 = fn10_isSafe_c200 s := by
      rw [fn10_isSafe_c188]
      rw [if_neg h1]
    rw [e]
    exact i200 s _ _ _ _ _ _ _ _ _ _ g1 g2 g3 g4 g5 g6 g7 g8 rfl rfl q1
noncomputable def fn10_isSafe_c187 (s : hs) (v9 : Int32) : Int32 := (fn10_isSafe_c188 s v9 (0 : Int32))
def wp10_isSafe_c187 (s : hs) (v9 : Int32) : Prop := (wp10_isSafe_c188 s v9 (0 : Int32))
set_option maxRecDepth 100000 in
set_option maxHeartbeats 4000000 in
theorem rc10_isSafe_187 (s : hs) (v9 : Int32) (j1 : Option am_V) (j2 : Option am_V) (j3 : Option am_V) (j4 : Option am_V) (j5 : Option am_V) (j6 : Option am_V) (j7 : Option am_V) (j8 : Option am_V) (j10 : Option am_V) (g1 : am_loO 22 j1 = true) (g2 : am_loO 22 j2 = true) (g3 : am_loO 22 j3 = true) (g4 : am_loO 22 j4 = true) (g5 : am_loO 22 j5 = true) (g6 : am_loO 22 j6 = true) (g7 : am_loO 22 j7 = true) (g8 : am_loO 22 j8 = true) (g10 : am_loO 22 j10 = true) (hp : wp10_isSafe_c187 s v9) : am_lf (am_mk kb10_isSafe 0 0 22) [17, 31, 45, 59, 73, 118, 122, 123, 187, 188, 200] (187, [some (.inr (.inl 0)), j1, j2, j3, j4, j5, j6, j7, j8, some (.inl v9), j10], [], (hm_w s), 0, 0) = some (some (.inl (fn10_isSafe_c187 s v9)), (hm_w s)) := by
  unfold wp10_isSafe_c187 at hp
  have i188 := @rc10_isSafe_188
  refine am_lf_eq ?_
  generalize am_lf (am_mk kb10_isSafe 0 0 22) [17, 31, 45, 59, 73, 118, 122, 123, 187, 188, 200] = kt at i188 ⊢
  have e : fn10_isSafe_c187 s v9 = fn10_isSafe_c188 s v9 (0 : Int32) := by
    rw [fn10_isSafe_c187]
  rw [e]
  exact i188 s v9 (0 : Int32) _ _ _ _ _ _ _ _ _ g1 g2 g3 g4 g5 g6 g7 g8 g10 hp
noncomputable def fn10_isSafe_c123 (s : hs) (v2 : Int32) (v3 : Int32) (v4 : Int32) (v5 : Int32) (v6 : Int32) (v7 : Int32) (v8 : Int32) (u0 : Int32) : Int32 := (if v4 = (109 : Int32) then (if v5 = (97 : Int32) then (if v6 = (105 : Int32) then (if v7 = (108 : Int32) then (if v8 = (116 : Int32) then (if v2 = (6 : Int32) then (if (fn10_small s ((hm_items s) ((v3 + (5 : Int32))).toNatClampNeg)) = (111 : Int32) then (fn10_isSafe_c188 s u0 (1 : Int32)) else (fn10_isSafe_c187 s u0)) else (fn10_isSafe_c187 s u0)) else (fn10_isSafe_c187 s u0)) else (fn10_isSafe_c187 s u0)) else (fn10_isSafe_c187 s u0)) else (fn10_isSafe_c187 s u0)) else (fn10_isSafe_c187 s u0))
def wp10_isSafe_c123 (s : hs) (v2 : Int32) (v3 : Int32) (v4 : Int32) (v5 : Int32) (v6 : Int32) (v7 : Int32) (v8 : Int32) (u0 : Int32) : Prop := ((v4 = (109 : Int32) → ((v5 = (97 : Int32) → ((v6 = (105 : Int32) → ((v7 = (108 : Int32) → ((v8 = (116 : Int32) → ((v2 = (6 : Int32) → (am_inb (v3 + (5 : Int32)) 1280 = true ∧ ((wp10_small s ((hm_items s) ((v3 + (5 : Int32))).toNatClampNeg)) ∧ (((fn10_small s ((hm_items s) ((v3 + (5 : Int32))).toNatClampNeg)) = (111 : Int32) → (wp10_isSafe_c188 s u0 (1 : Int32))) ∧ (¬ (fn10_small s ((hm_items s) ((v3 + (5 : Int32))).toNatClampNeg)) = (111 : Int32) → (wp10_isSafe_c187 s u0)))))) ∧ (¬ v2 = (6 : Int32) → (wp10_isSafe_c187 s u0)))) ∧ (¬ v8 = (116 : Int32) → (wp10_isSafe_c187 s u0)))) ∧ (¬ v7 = (108 : Int32) → (wp10_isSafe_c187 s u0)))) ∧ (¬ v6 = (105 : Int32) → (wp10_isSafe_c187 s u0)))) ∧ (¬ v5 = (97 : Int32) → (wp10_isSafe_c187 s u0)))) ∧ (¬ v4 = (109 : Int32) → (wp10_isSafe_c187 s u0)))
set_option maxRecDepth 100000 in
set_option maxHeartbeats 4000000 in
theorem rc10_isSafe_123 (s : hs) (v2 : Int32) (v3 : Int32) (v4 : Int32) (v5 : Int32) (v6 : Int32) (v7 : Int32) (v8 : Int32) (u0 : Int32) (j1 : Option am_V) (j9 : Option am_V) (j10 : Option am_V) (g1 : am_loO 22 j1 = true) (g9 : am_loO 22 j9 = true) (g10 : am_loO 22 j10 = true) (hp : wp10_isSafe_c123 s v2 v3 v4 v5 v6 v7 v8 u0) : am_lf (am_mk kb10_isSafe 0 0 22) [17, 31, 45, 59, 73, 118, 122, 123, 187, 188, 200] (123, [some (.inr (.inl 0)), j1, some (.inl v2), some (.inl v3), some (.inl v4), some (.inl v5), some (.inl v6), some (.inl v7), some (.inl v8), j9, j10], [.inl u0], (hm_w s), 0, 0) = some (some (.inl (fn10_isSafe_c123 s v2 v3 v4 v5 v6 v7 v8 u0)), (hm_w s)) := by
  unfold wp10_isSafe_c123 at hp
  have i187 := @rc10_isSafe_187
  have i188 := @rc10_isSafe_188
  refine am_lf_eq ?_
  generalize am_lf (am_mk kb10_isSafe 0 0 22) [17, 31, 45, 59, 73, 118, 122, 123, 187, 188, 200] = kt at i187 i188 ⊢
  refine am_if (c := v4 = (109 : Int32)) (fun h1 => ?_) (fun h1 => ?_)
  · have q1 := hp.1 h1
    refine am_if (c := v5 = (97 : Int32)) (fun h2 => ?_) (fun h2 => ?_)
    · have q2 := q1.1 h2
      refine am_if (c := v6 = (105 : Int32)) (fun h3 => ?_) (fun h3 => ?_)
      · have q3 := q2.1 h3
        refine am_if (c := v7 = (108 : Int32)) (fun h4 => ?_) (fun h4 => ?_)
        · have q4 := q3.1 h4
          refine am_if (c := v8 = (116 : Int32)) (fun h5 => ?_) (fun h5 => ?_)
          · have q5 := q4.1 h5
            refine am_if (c := v2 = (6 : Int32)) (fun h6 => ?_) (fun h6 => ?_)
            · have q6 := q5.1 h6
              refine am_ci (c := am_inb (v3 + (5 : Int32)) 1280 = true) q6.1 ?_
              refine am_cx (pre := pr10_small) (f := fm10_small) (r := (some (.inl (fn10_small s ((hm_items s) ((v3 + (5 : Int32))).toNatClampNeg))), (hm_w s), 0, 0)) ?_ ?_ ?_ ?_
              · exact ⟨s, ((hm_items s) ((v3 + (5 : Int32))).toNatClampNeg), rfl, rfl, q6.2.1⟩
              · exact fe10_small s ((hm_items s) ((v3 + (5 : Int32))).toNatClampNeg)
              · exact (am_ac rfl (am_ac g1 (am_ac rfl (am_ac rfl (am_ac rfl (am_ac rfl (am_ac rfl (am_ac rfl (am_ac rfl (am_ac rfl (am_ac g10 am_a0)))))))))))
              refine am_if (c := (fn10_small s ((hm_items s) ((v3 + (5 : Int32))).toNatClampNeg)) = (111 : Int32)) (fun h7 => ?_) (fun h7 => ?_)
              · have q7 := q6.2.2.1 h7
                have e : fn10_isSafe_c123 s v2 v3 v4 v5 v6 v7 v8 u0 = fn10_isSafe_c188 s u0 (1 : Int32) := by
                  rw [fn10_isSafe_c123]
                  rw [if_pos h1, if_pos h2, if_pos h3, if_pos h4, if_pos h5, if_pos h6, if_pos h7]
                rw [e]
                exact i188 s u0 (1 : Int32) _ _ _ _ _ _ _ _ _ g1 rfl rfl rfl rfl rfl rfl rfl g10 q7
              · have q7 := q6.2.2.2 h7
                have e : fn10_isSafe_c123 s v2 v3 v4 v5 v6 v7 v8 u0 = fn10_isSafe_c187 s u0 := by
                  rw [fn10_isSafe_c123]
                  rw [if_pos h1, if_pos h2, if_pos h3, if_pos h4, if_pos h5, if_pos h6, if_neg h7]
                rw [e]
                exact i187 s u0 _ _ _ _ _ _ _ _ _ g1 rfl rfl rfl rfl rfl rfl rfl g10 q7
            · have q6 := q5.2 h6
              have e : fn10_isSafe_c123 s v2 v3 v4 v5 v6 v7 v8 u0 = fn10_isSafe_c187 s u0 := by
                rw [fn10_isSafe_c123]
                rw [if_pos h1, if_pos h2, if_pos h3, if_pos h4, if_pos h5, if_neg h6]
              rw [e]
              exact i187 s u0 _ _ _ _ _ _ _ _ _ g1 rfl rfl rfl rfl rfl rfl rfl g10 q6
          · have q5 := q4.2 h5
            have e : fn10_isSafe_c123 s v2 v3 v4 v5 v6 v7 v8 u0 = fn10_isSafe_c187 s u0 := by
              rw [fn10_isSafe_c123]
              rw [if_pos h1, if_pos h2, if_pos h3, if_pos h4, if_neg h5]
            rw [e]
            exact i187 s u0 _ _ _ _ _ _ _ _ _ g1 rfl rfl rfl rfl rfl rfl rfl g10 q5
        · have q4 := q3.2 h4
          have e : fn10_isSafe_c123 s v2 v3 v4 v5 v6 v7 v8 u0 = fn10_isSafe_c187 s u0 := by
            rw [fn10_isSafe_c123]
            rw [if_pos h1, if_pos h2, if_pos h3, if_neg h4]
          rw [e]
          exact i187 s u0 _ _ _ _ _ _ _ _ _ g1 rfl rfl rfl rfl rfl rfl rfl g10 q4
      · have q3 := q2.2 h3
        have e : fn10_isSafe_c123 s v2 v3 v4 v5 v6 v7 v8 u0 = fn10_isSafe_c187 s u0 := by
          rw [fn10_isSafe_c123]
          rw [if_pos h1, if_pos h2, if_neg h3]
        rw [e]
        exact i187 s u0 _ _ _ _ _ _ _ _ _ g1 rfl rfl rfl rfl rfl rfl rfl g10 q3
    · have q2 := q1.2 h2
      have e : fn10_isSafe_c123 s v2 v3 v4 v5 v6 v7 v8 u0 = fn10_isSafe_c187 s u0 := by
        rw [fn10_isSafe_c123]
        rw [if_pos h1, if_neg h2]
      rw [e]
      exact i187 s u0 _ _ _ _ _ _ _ _ _ g1 rfl rfl rfl rfl rfl rfl rfl g10 q2
  · have q1 := hp.2 h1
    have e : fn10_isSafe_c123 s v2 v3 v4 v5 v6 v7 v8 u0 = fn10_isSafe_c187 s u0 := by
      rw [fn10_isSafe_c123]
      rw [if_neg h1]
    rw [e]
    exact i187 s u0 _ _ _ _ _ _ _ _ _ g1 rfl rfl rfl rfl rfl rfl rfl g10 q1
noncomputable def fn10_isSafe_c118 (s : hs) (v2 : Int32) (v3 : Int32) (v4 : Int32) (v5 : Int32) (v6 : Int32) (v7 : Int32) (v8 : Int32) : Int32 := (fn10_isSafe_c123 s v2 v3 v4 v5 v6 v7 v8 (1 : Int32))
def wp10_isSafe_c118 (s : hs) (v2 : Int32) (v3 : Int32) (v4 : Int32) (v5 : Int32) (v6 : Int32) (v7 : Int32) (v8 : Int32) : Prop := (wp10_isSafe_c123 s v2 v3 v4 v5 v6 v7 v8 (1 : Int32))
set_option maxRecDepth 100000 in
set_option maxHeartbeats 4000000 in
theorem rc10_isSafe_118 (s : hs) (v2 : Int32) (v3 : Int32) (v4 : Int32) (v5 : Int32) (v6 : Int32) (v7 : Int32) (v8 : Int32) (j1 : Option am_V) (j9 : Option am_V) (j10 : Option am_V) (g1 : am_loO 22 j1 = true) (g9 : am_loO 22 j9 = true) (g10 : am_loO 22 j10 = true) (hp : wp10_isSafe_c118 s v2 v3 v4 v5 v6 v7 v8) : am_lf (am_mk kb10_isSafe 0 0 22) [17, 31, 45, 59, 73, 118, 122, 123, 187, 188, 200] (118, [some (.inr (.inl 0)), j1, some (.inl v2), some (.inl v3), some (.inl v4), some (.inl v5), some (.inl v6), some (.inl v7), some (.inl v8), j9, j10], [], (hm_w s), 0, 0) = some (some (.inl (fn10_isSafe_c118 s v2 v3 v4 v5 v6 v7 v8)), (hm_w s)) := by
  unfold wp10_isSafe_c118 at hp
  have i123 := @rc10_isSafe_123
  refine am_lf_eq ?_
  generalize am_lf (am_mk kb10_isSafe 0 0 22) [17, 31, 45, 59, 73, 118, 122, 123, 187, 188, 200] = kt at i123 ⊢
  have e : fn10_isSafe_c118 s v2 v3 v4 v5 v6 v7 v8 = fn10_isSafe_c123 s v2 v3 v4 v5 v6 v7 v8 (1 : Int32) := by
    rw [fn10_isSafe_c118]
  rw [e]
  exact i123 s v2 v3 v4 v5 v6 v7 v8 (1 : Int32) _ _ _ g1 g9 g10 hp
noncomputable def fn10_isSafe_c122 (s : hs) (v2 : Int32) (v3 : Int32) (v4 : Int32) (v5 : Int32) (v6 : Int32) (v7 : Int32) (v8 : Int32) : Int32 := (fn10_isSafe_c123 s v2 v3 v4 v5 v6 v7 v8 (0 : Int32))
def wp10_isSafe_c122 (s : hs) (v2 : Int32) (v3 : Int32) (v4 : Int32) (v5 : Int32) (v6 : Int32) (v7 : Int32) (v8 : Int32) : Prop := (wp10_isSafe_c123 s v2 v3 v4 v5 v6 v7 v8 (0 : Int32))
set_option maxRecDepth 100000 in
set_option maxHeartbeats 4000000 in
theorem rc10_isSafe_122 (s : hs) (v2 : Int32) (v3 : Int32) (v4 : Int32) (v5 : Int32) (v6 : Int32) (v7 : Int32) (v8 : Int32) (j1 : Option am_V) (j9 : Option am_V) (j10 : Option am_V) (g1 : am_loO 22 j1 = true) (g9 : am_loO 22 j9 = true) (g10 : am_loO 22 j10 = true) (hp : wp10_isSafe_c122 s v2 v3 v4 v5 v6 v7 v8) : am_lf (am_mk kb10_isSafe 0 0 22) [17, 31, 45, 59, 73, 118, 122, 123, 187, 188, 200] (122, [some (.inr (.inl 0)), j1, some (.inl v2), some (.inl v3), some (.inl v4), some (.inl v5), some (.inl v6), some (.inl v7), some (.inl v8), j9, j10], [], (hm_w s), 0, 0) = some (some (.inl (fn10_isSafe_c122 s v2 v3 v4 v5 v6 v7 v8)), (hm_w s)) := by
  unfold wp10_isSafe_c122 at hp
  have i123 := @rc10_isSafe_123
  refine am_lf_eq ?_
  generalize am_lf (am_mk kb10_isSafe 0 0 22) [17, 31, 45, 59, 73, 118, 122, 123, 187, 188, 200] = kt at i123 ⊢
  have e : fn10_isSafe_c122 s v2 v3 v4 v5 v6 v7 v8 = fn10_isSafe_c123 s v2 v3 v4 v5 v6 v7 v8 (0 : Int32) := by
    rw [fn10_isSafe_c122]
  rw [e]
  exact i123 s v2 v3 v4 v5 v6 v7 v8 (0 : Int32) _ _ _ g1 g9 g10 hp
noncomputable def fn10_isSafe_c73 (s : hs) (v2 : Int32) (v3 : Int32) (v4 : Int32) (v5 : Int32) (v6 : Int32) (v7 : Int32) (v8 : Int32) : Int32 := (if v4 = (104 : Int32) then (if v5 = (116 : Int32) then (if v6 = (116 : Int32) then (if v7 = (112 : Int32) then (if v2 = (4 : Int32) then (fn10_isSafe_c118 s v2 v3 v4 v5 v6 v7 v8) else (if v2 = (5 : Int32) then (if v8 = (115 : Int32) then (fn10_isSafe_c118 s v2 v3 v4 v5 v6 v7 v8) else (fn10_isSafe_c122 s v2 v3 v4 v5 v6 v7 v8)) else (fn10_isSafe_c122 s v2 v3 v4 v5 v6 v7 v8))) else (fn10_isSafe_c122 s v2 v3 v4 v5 v6 v7 v8)) else (fn10_isSafe_c122 s v2 v3 v4 v5 v6 v7 v8)) else (fn10_isSafe_c122 s v2 v3 v4 v5 v6 v7 v8)) else (fn10_isSafe_c122 s v2 v3 v4 v5 v6 v7 v8))
def wp10_isSafe_c73 (s : hs) (v2 : Int32) (v3 : Int32) (v4 : Int32) (v5 : Int32) (v6 : Int32) (v7 : Int32) (v8 : Int32) : Prop := ((v4 = (104 : Int32) → ((v5 = (116 : Int32) → ((v6 = (116 : Int32) → ((v7 = (112 : Int32) → ((v2 = (4 : Int32) → (wp10_isSafe_c118 s v2 v3 v4 v5 v6 v7 v8)) ∧ (¬ v2 = (4 : Int32) → ((v2 = (5 : Int32) → ((v8 = (115 : Int32) → (wp10_isSafe_c118 s v2 v3 v4 v5 v6 v7 v8)) ∧ (¬ v8 = (115 : Int32) → (wp10_isSafe_c122 s v2 v3 v4 v5 v6 v7 v8)))) ∧ (¬ v2 = (5 : Int32) → (wp10_isSafe_c122 s v2 v3 v4 v5 v6 v7 v8)))))) ∧ (¬ v7 = (112 : Int32) → (wp10_isSafe_c122 s v2 v3 v4 v5 v6 v7 v8)))) ∧ (¬ v6 = (116 : Int32) → (wp10_isSafe_c122 s v2 v3 v4 v5 v6 v7 v8)))) ∧ (¬ v5 = (116 : Int32) → (wp10_isSafe_c122 s v2 v3 v4 v5 v6 v7 v8)))) ∧ (¬ v4 = (104 : Int32) → (wp10_isSafe_c122 s v2 v3 v4 v5 v6 v7 v8)))
set_option maxRecDepth 100000 in
set_option maxHeartbeats 4000000 in
theorem rc10_isSafe_73 (s : hs) (v2 : Int32) (v3 : Int32) (v4 : Int32) (v5 : Int32) (v6 : Int32) (v7 : Int32) (v8 : Int32) (j1 : Option am_V) (j9 : Option am_V) (j10 : Option am_V) (g1 : am_loO 22 j1 = true) (g9 : am_loO 22 j9 = true) (g10 : am_loO 22 j10 = true) (hp : wp10_isSafe_c73 s v2 v3 v4 v5 v6 v7 v8) : am_lf (am_mk kb10_isSafe 0 0 22) [17, 31, 45, 59, 73, 118, 122, 123, 187, 188, 200] (73, [some (.inr (.inl 0)), j1, some (.inl v2), some (.inl v3), some (.inl v4), some (.inl v5), some (.inl v6), some (.inl v7), some (.inl v8), j9, j10], [], (hm_w s), 0, 0) = some (some (.inl (fn10_isSafe_c73 s v2 v3 v4 v5 v6 v7 v8)), (hm_w s)) := by
  unfold wp10_isSafe_c73 at hp
  have i118 := @rc10_isSafe_118
  have i122 := @rc10_isSafe_122
  refine am_lf_eq ?_
  generalize am_lf (am_mk kb10_isSafe 0 0 22) [17, 31, 45, 59, 73, 118, 122, 123, 187, 188, 200] = kt at i118 i122 ⊢
  refine am_if (c := v4 = (104 : Int32)) (fun h1 => ?_) (fun h1 => ?_)
  · have q1 := hp.1 h1
    refine am_if (c := v5 = (116 : Int32)) (fun h2 => ?_) (fun h2 => ?_)
    · have q2 := q1.1 h2
      refine am_if (c := v6 = (116 : Int32)) (fun h3 => ?_) (fun h3 => ?_)
      · have q3 := q2.1 h3
        refine am_if (c := v7 = (112 : Int32)) (fun h4 => ?_) (fun h4 => ?_)
        · have q4 := q3.1 h4
          refine am_if (c := v2 = (4 : Int32)) (fun h5 => ?_) (fun h5 => ?_)
          · have q5 := q4.1 h5
            have e : fn10_isSafe_c73 s v2 v3 v4 v5 v6 v7 v8 = fn10_isSafe_c118 s v2 v3 v4 v5 v6 v7 v8 := by
              rw [fn10_isSafe_c73]
              rw [if_pos h1, if_pos h2, if_pos h3, if_pos h4, if_pos h5]
            rw [e]
            exact i118 s v2 v3 v4 v5 v6 v7 v8 _ _ _ g1 g9 g10 q5
          · have q5 := q4.2 h5
            refine am_if (c := v2 = (5 : Int32)) (fun h6 => ?_) (fun h6 => ?_)
            · have q6 := q5.1 h6
              refine am_if (c := v8 = (115 : Int32)) (fun h7 => ?_) (fun h7 => ?_)
              · have q7 := q6.1 h7
                have e : fn10_isSafe_c73 s v2 v3 v4 v5 v6 v7 v8 = fn10_isSafe_c118 s v2 v3 v4 v5 v6 v7 v8 := by
                  rw [fn10_isSafe_c73]
                  rw [if_pos h1, if_pos h2, if_pos h3, if_pos h4, if_neg h5, if_pos h6, if_pos h7]
                rw [e]
                exact i118 s v2 v3 v4 v5 v6 v7 v8 _ _ _ g1 g9 g10 q7
              · have q7 := q6.2 h7
                have e : fn10_isSafe_c73 s v2 v3 v4 v5 v6 v7 v8 = fn10_isSafe_c122 s v2 v3 v4 v5 v6 v7 v8 := by
                  rw [fn10_isSafe_c73]
                  rw [if_pos h1, if_pos h2, if_pos h3, if_pos h4, if_neg h5, if_pos h6, if_neg h7]
                rw [e]
                exact i122 s v2 v3 v4 v5 v6 v7 v8 _ _ _ g1 g9 g10 q7
            · have q6 := q5.2 h6
              have e : fn10_isSafe_c73 s v2 v3 v4 v5 v6 v7 v8 = fn10_isSafe_c122 s v2 v3 v4 v5 v6 v7 v8 := by
                rw [fn10_isSafe_c73]
                rw [if_pos h1, if_pos h2, if_pos h3, if_pos h4, if_neg h5, if_neg h6]
              rw [e]
              exact i122 s v2 v3 v4 v5 v6 v7 v8 _ _ _ g1 g9 g10 q6
        · have q4 := q3.2 h4
          have e : fn10_isSafe_c73 s v2 v3 v4 v5 v6 v7 v8 = fn10_isSafe_c122 s v2 v3 v4 v5 v6 v7 v8 := by
            rw [fn10_isSafe_c73]
            rw [if_pos h1, if_pos h2, if_pos h3, if_neg h4]
          rw [e]
          exact i122 s v2 v3 v4 v5 v6 v7 v8 _ _ _ g1 g9 g10 q4
      · have q3 := q2.2 h3
        have e : fn10_isSafe_c73 s v2 v3 v4 v5 v6 v7 v8 = fn10_isSafe_c122 s v2 v3 v4 v5 v6 v7 v8 := by
          rw [fn10_isSafe_c73]
          rw [if_pos h1, if_pos h2, if_neg h3]
        rw [e]
        exact i122 s v2 v3 v4 v5 v6 v7 v8 _ _ _ g1 g9 g10 q3
    · have q2 := q1.2 h2
      have e : fn10_isSafe_c73 s v2 v3 v4 v5 v6 v7 v8 = fn10_isSafe_c122 s v2 v3 v4 v5 v6 v7 v8 := by
        rw [fn10_isSafe_c73]
        rw [if_pos h1, if_neg h2]
      rw [e]
      exact i122 s v2 v3 v4 v5 v6 v7 v8 _ _ _ g1 g9 g10 q2
  · have q1 := hp.2 h1
    have e : fn10_isSafe_c73 s v2 v3 v4 v5 v6 v7 v8 = fn10_isSafe_c122 s v2 v3 v4 v5 v6 v7 v8 := by
      rw [fn10_isSafe_c73]
      rw [if_neg h1]
    rw [e]
    exact i122 s v2 v3 v4 v5 v6 v7 v8 _ _ _ g1 g9 g10 q1
noncomputable def fn10_isSafe_c59 (s : hs) (v2 : Int32) (v3 : Int32) (v4 : Int32) (v5 : Int32) (v6 : Int32) (v7 : Int32) : Int32 := (fn10_isSafe_c73 s v2 v3 v4 v5 v6 v7 (fn10_small s ((hm_items s) ((v3 + (4 : Int32))).toNatClampNeg)))
def wp10_isSafe_c59 (s : hs) (v2 : Int32) (v3 : Int32) (v4 : Int32) (v5 : Int32) (v6 : Int32) (v7 : Int32) : Prop := (am_inb (v3 + (4 : Int32)) 1280 = true ∧ ((wp10_small s ((hm_items s) ((v3 + (4 : Int32))).toNatClampNeg)) ∧ (wp10_isSafe_c73 s v2 v3 v4 v5 v6 v7 (fn10_small s ((hm_items s) ((v3 + (4 : Int32))).toNatClampNeg)))))
set_option maxRecDepth 100000 in
set_option maxHeartbeats 4000000 in
theorem rc10_isSafe_59 (s : hs) (v2 : Int32) (v3 : Int32) (v4 : Int32) (v5 : Int32) (v6 : Int32) (v7 : Int32) (j1 : Option am_V) (j8 : Option am_V) (j9 : Option am_V) (j10 : Option am_V) (g1 : am_loO 22 j1 = true) (g8 : am_loO 22 j8 = true) (g9 : am_loO 22 j9 = true) (g10 : am_loO 22 j10 = true) (hp : wp10_isSafe_c59 s v2 v3 v4 v5 v6 v7) : am_lf (am_mk kb10_isSafe 0 0 22) [17, 31, 45, 59, 73, 118, 122, 123, 187, 188, 200] (59, [some (.inr (.inl 0)), j1, some (.inl v2), some (.inl v3), some (.inl v4), some (.inl v5), some (.inl v6), some (.inl v7), j8, j9, j10], [], (hm_w s), 0, 0) = some (some (.inl (fn10_isSafe_c59 s v2 v3 v4 v5 v6 v7)), (hm_w s)) := by
  unfold wp10_isSafe_c59 at hp
  have i73 := @rc10_isSafe_73
  refine am_lf_eq ?_
  generalize am_lf (am_mk kb10_isSafe 0 0 22) [17, 31, 45, 59, 73, 118, 122, 123, 187, 188, 200] = kt at i73 ⊢
  refine am_ci (c := am_inb (v3 + (4 : Int32)) 1280 = true) hp.1 ?_
  refine am_cx (pre := pr10_small) (f := fm10_small) (r := (some (.inl (fn10_small s ((hm_items s) ((v3 + (4 : Int32))).toNatClampNeg))), (hm_w s), 0, 0)) ?_ ?_ ?_ ?_
  · exact ⟨s, ((hm_items s) ((v3 + (4 : Int32))).toNatClampNeg), rfl, rfl, hp.2.1⟩
  · exact fe10_small s ((hm_items s) ((v3 + (4 : Int32))).toNatClampNeg)
  · exact (am_ac rfl (am_ac g1 (am_ac rfl (am_ac rfl (am_ac rfl (am_ac rfl (am_ac rfl (am_ac rfl (am_ac g8 (am_ac g9 (am_ac g10 am_a0)))))))))))
  have e : fn10_isSafe_c59 s v2 v3 v4 v5 v6 v7 = fn10_isSafe_c73 s v2 v3 v4 v5 v6 v7 (fn10_small s ((hm_items s) ((v3 + (4 : Int32))).toNatClampNeg)) := by
    rw [fn10_isSafe_c59]
  rw [e]
  exact i73 s v2 v3 v4 v5 v6 v7 (fn10_small s ((hm_items s) ((v3 + (4 : Int32))).toNatClampNeg)) _ _ _ g1 g9 g10 hp.2.2
noncomputable def fn10_isSafe_c45 (s : hs) (v2 : Int32) (v3 : Int32) (v4 : Int32) (v5 : Int32) (v6 : Int32) : Int32 := (fn10_isSafe_c59 s v2 v3 v4 v5 v6 (fn10_small s ((hm_items s) ((v3 + (3 : Int32))).toNatClampNeg)))
def wp10_isSafe_c45 (s : hs) (v2 : Int32) (v3 : Int32) (v4 : Int32) (v5 : Int32) (v6 : Int32) : Prop := (am_inb (v3 + (3 : Int32)) 1280 = true ∧ ((wp10_small s ((hm_items s) ((v3 + (3 : Int32))).toNatClampNeg)) ∧ (wp10_isSafe_c59 s v2 v3 v4 v5 v6 (fn10_small s ((hm_items s) ((v3 + (3 : Int32))).toNatClampNeg)))))
set_option maxRecDepth 100000 in
set_option maxHeartbeats 4000000 in
theorem rc10_isSafe_45 (s : hs) (v2 : Int32) (v3 : Int32) (v4 : Int32) (v5 : Int32) (v6 : Int32) (j1 : Option am_V) (j7 : Option am_V) (j8 : Option am_V) (j9 : Option am_V) (j10 : Option am_V) (g1 : am_loO 22 j1 = true) (g7 : am_loO 22 j7 = true) (g8 : am_loO 22 j8 = true) (g9 : am_loO 22 j9 = true) (g10 : am_loO 22 j10 = true) (hp : wp10_isSafe_c45 s v2 v3 v4 v5 v6) : am_lf (am_mk kb10_isSafe 0 0 22) [17, 31, 45, 59, 73, 118, 122, 123, 187, 188, 200] (45, [some (.inr (.inl 0)), j1, some (.inl v2), some (.inl v3), some (.inl v4), some (.inl v5), some (.inl v6), j7, j8, j9, j10], [], (hm_w s), 0, 0) = some (some (.inl (fn10_isSafe_c45 s v2 v3 v4 v5 v6)), (hm_w s)) := by
  unfold wp10_isSafe_c45 at hp
  have i59 := @rc10_isSafe_59
  refine am_lf_eq ?_
  generalize am_lf (am_mk kb10_isSafe 0 0 22) [17, 31, 45, 59, 73, 118, 122, 123, 187, 188, 200] = kt at i59 ⊢
  refine am_ci (c := am_inb (v3 + (3 : Int32)) 1280 = true) hp.1 ?_
  refine am_cx (pre := pr10_small) (f := fm10_small) (r := (some (.inl (fn10_small s ((hm_items s) ((v3 + (3 : Int32))).toNatClampNeg))), (hm_w s), 0, 0)) ?_ ?_ ?_ ?_
  · exact ⟨s, ((hm_items s) ((v3 + (3 : Int32))).toNatClampNeg), rfl, rfl, hp.2.1⟩
  · exact fe10_small s ((hm_items s) ((v3 + (3 : Int32))).toNatClampNeg)
  · exact (am_ac rfl (am_ac g1 (am_ac rfl (am_ac rfl (am_ac rfl (am_ac rfl (am_ac rfl (am_ac g7 (am_ac g8 (am_ac g9 (am_ac g10 am_a0)))))))))))
  have e : fn10_isSafe_c45 s v2 v3 v4 v5 v6 = fn10_isSafe_c59 s v2 v3 v4 v5 v6 (fn10_small s ((hm_items s) ((v3 + (3 : Int32))).toNatClampNeg)) := by
    rw [fn10_isSafe_c45]
  rw [e]
  exact i59 s v2 v3 v4 v5 v6 (fn10_small s ((hm_items s) ((v3 + (3 : Int32))).toNatClampNeg)) _ _ _ _ g1 g8 g9 g10 hp.2.2
noncomputable def fn10_isSafe_c31 (s : hs) (v2 : Int32) (v3 : Int32) (v4 : Int32) (v5 : Int32) : Int32 := (fn10_isSafe_c45 s v2 v3 v4 v5 (fn10_small s ((hm_items s) ((v3 + (2 : Int32))).toNatClampNeg)))
def wp10_isSafe_c31 (s : hs) (v2 : Int32) (v3 : Int32) (v4 : Int32) (v5 : Int32) : Prop := (am_inb (v3 + (2 : Int32)) 1280 = true ∧ ((wp10_small s ((hm_items s) ((v3 + (2 : Int32))).toNatClampNeg)) ∧ (wp10_isSafe_c45 s v2 v3 v4 v5 (fn10_small s ((hm_items s) ((v3 + (2 : Int32))).toNatClampNeg)))))
set_option maxRecDepth 100000 in
set_option maxHeartbeats 4000000 in
theorem rc10_isSafe_31 (s : hs) (v2 : Int32) (v3 : Int32) (v4 : Int32) (v5 : Int32) (j1 : Option am_V) (j6 : Option am_V) (j7 : Option am_V) (j8 : Option am_V) (j9 : Option am_V) (j10 : Option am_V) (g1 : am_loO 22 j1 = true) (g6 : am_loO 22 j6 = true) (g7 : am_loO 22 j7 = true) (g8 : am_loO 22 j8 = true) (g9 : am_loO 22 j9 = true) (g10 : am_loO 22 j10 = true) (hp : wp10_isSafe_c31 s v2 v3 v4 v5) : am_lf (am_mk kb10_isSafe 0 0 22) [17, 31, 45, 59, 73, 118, 122, 123, 187, 188, 200] (31, [some (.inr (.inl 0)), j1, some (.inl v2), some (.inl v3), some (.inl v4), some (.inl v5), j6, j7, j8, j9, j10], [], (hm_w s), 0, 0) = some (some (.inl (fn10_isSafe_c31 s v2 v3 v4 v5)), (hm_w s)) := by
  unfold wp10_isSafe_c31 at hp
  have i45 := @rc10_isSafe_45
  refine am_lf_eq ?_
  generalize am_lf (am_mk kb10_isSafe 0 0 22) [17, 31, 45, 59, 73, 118, 122, 123, 187, 188, 200] = kt at i45 ⊢
  refine am_ci (c := am_inb (v3 + (2 : Int32)) 1280 = true) hp.1 ?_
  refine am_cx (pre := pr10_small) (f := fm10_small) (r := (some (.inl (fn10_small s ((hm_items s) ((v3 + (2 : Int32))).toNatClampNeg))), (hm_w s), 0, 0)) ?_ ?_ ?_ ?_
  · exact ⟨s, ((hm_items s) ((v3 + (2 : Int32))).toNatClampNeg), rfl, rfl, hp.2.1⟩
  · exact fe10_small s ((hm_items s) ((v3 + (2 : Int32))).toNatClampNeg)
  · exact (am_ac rfl (am_ac g1 (am_ac rfl (am_ac rfl (am_ac rfl (am_ac rfl (am_ac g6 (am_ac g7 (am_ac g8 (am_ac g9 (am_ac g10 am_a0)))))))))))
  have e : fn10_isSafe_c31 s v2 v3 v4 v5 = fn10_isSafe_c45 s v2 v3 v4 v5 (fn10_small s ((hm_items s) ((v3 + (2 : Int32))).toNatClampNeg)) := by
    rw [fn10_isSafe_c31]
  rw [e]
  exact i45 s v2 v3 v4 v5 (fn10_small s ((hm_items s) ((v3 + (2 : Int32))).toNatClampNeg)) _ _ _ _ _ g1 g7 g8 g9 g10 hp.2.2
noncomputable def fn10_isSafe_c17 (s : hs) (v2 : Int32) (v3 : Int32) (v4 : Int32) : Int32 := (fn10_isSafe_c31 s v2 v3 v4 (fn10_small s ((hm_items s) ((v3 + (1 : Int32))).toNatClampNeg)))
def wp10_isSafe_c17 (s : hs) (v2 : Int32) (v3 : Int32) (v4 : Int32) : Prop := (am_inb (v3 + (1 : Int32)) 1280 = true ∧ ((wp10_small s ((hm_items s) ((v3 + (1 : Int32))).toNatClampNeg)) ∧ (wp10_isSafe_c31 s v2 v3 v4 (fn10_small s ((hm_items s) ((v3 + (1 : Int32))).toNatClampNeg)))))
set_option maxRecDepth 100000 in
set_option maxHeartbeats 4000000 in
theorem rc10_isSafe_17 (s : hs) (v2 : Int32) (v3 : Int32) (v4 : Int32) (j1 : Option am_V) (j5 : Option am_V) (j6 : Option am_V) (j7 : Option am_V) (j8 : Option am_V) (j9 : Option am_V) (j10 : Option am_V) (g1 : am_loO 22 j1 = true) (g5 : am_loO 22 j5 = true) (g6 : am_loO 22 j6 = true) (g7 : am_loO 22 j7 = true) (g8 : am_loO 22 j8 = true) (g9 : am_loO 22 j9 = true) (g10 : am_loO 22 j10 = true) (hp : wp10_isSafe_c17 s v2 v3 v4) : am_lf (am_mk kb10_isSafe 0 0 22) [17, 31, 45, 59, 73, 118, 122, 123, 187, 188, 200] (17, [some (.inr (.inl 0)), j1, some (.inl v2), some (.inl v3), some (.inl v4), j5, j6, j7, j8, j9, j10], [], (hm_w s), 0, 0) = some (some (.inl (fn10_isSafe_c17 s v2 v3 v4)), (hm_w s)) := by
  unfold wp10_isSafe_c17 at hp
  have i31 := @rc10_isSafe_31
  refine am_lf_eq ?_
  generalize am_lf (am_mk kb10_isSafe 0 0 22) [17, 31, 45, 59, 73, 118, 122, 123, 187, 188, 200] = kt at i31 ⊢
  refine am_ci (c := am_inb (v3 + (1 : Int32)) 1280 = true) hp.1 ?_
  refine am_cx (pre := pr10_small) (f := fm10_small) (r := (some (.inl (fn10_small s ((hm_items s) ((v3 + (1 : Int32))).toNatClampNeg))), (hm_w s), 0, 0)) ?_ ?_ ?_ ?_
  · exact ⟨s, ((hm_items s) ((v3 + (1 : Int32))).toNatClampNeg), rfl, rfl, hp.2.1⟩
  · exact fe10_small s ((hm_items s) ((v3 + (1 : Int32))).toNatClampNeg)
  · exact (am_ac rfl (am_ac g1 (am_ac rfl (am_ac rfl (am_ac rfl (am_ac g5 (am_ac g6 (am_ac g7 (am_ac g8 (am_ac g9 (am_ac g10 am_a0)))))))))))
  have e : fn10_isSafe_c17 s v2 v3 v4 = fn10_isSafe_c31 s v2 v3 v4 (fn10_small s ((hm_items s) ((v3 + (1 : Int32))).toNatClampNeg)) := by
    rw [fn10_isSafe_c17]
  rw [e]
  exact i31 s v2 v3 v4 (fn10_small s ((hm_items s) ((v3 + (1 : Int32))).toNatClampNeg)) _ _ _ _ _ _ g1 g6 g7 g8 g9 g10 hp.2.2
noncomputable def fn10_isSafe (s : hs) (p0 : Int32) (p1 : Int32) : Int32 := Classical.choose (⟨_, rfl⟩ : ∃ z : Int32, z = (fn10_isSafe_c17 s p1 ((40 : Int32) * p0) (fn10_small s ((hm_items s) (((40 : Int32) * p0)).toNatClampNeg))))
theorem fq10_isSafe (s : hs) (p0 : Int32) (p1 : Int32) : fn10_isSafe s p0 p1 = (fn10_isSafe_c17 s p1 ((40 : Int32) * p0) (fn10_small s ((hm_items s) (((40 : Int32) * p0)).toNatClampNeg))) := Classical.choose_spec (⟨_, rfl⟩ : ∃ z : Int32, z = (fn10_isSafe_c17 s p1 ((40 : Int32) * p0) (fn10_small s ((hm_items s) (((40 : Int32) * p0)).toNatClampNeg))))
def wp10_isSafe (s : hs) (p0 : Int32) (p1 : Int32) : Prop := (am_inb ((40 : Int32) * p0) 1280 = true ∧ ((wp10_small s ((hm_items s) (((40 : Int32) * p0)).toNatClampNeg)) ∧ (wp10_isSafe_c17 s p1 ((40 : Int32) * p0) (fn10_small s ((hm_items s) (((40 : Int32) * p0)).toNatClampNeg)))))
set_option maxRecDepth 100000 in
set_option maxHeartbeats 4000000 in
theorem re10_isSafe (s : hs) (p0 : Int32) (p1 : Int32) (hp : wp10_isSafe s p0 p1) : am_lf (am_mk kb10_isSafe 0 0 22) [17, 31, 45, 59, 73, 118, 122, 123, 187, 188, 200] (0, am_L0 [.inr (.inl 0), .inl p0, .inl p1] 11, [], (hm_w s), 0, 0) = some (some (.inl (fn10_isSafe s p0 p1)), (hm_w s)) := by
  unfold wp10_isSafe at hp
  have i17 := @rc10_isSafe_17
  refine am_lf_eq ?_
  generalize am_lf (am_mk kb10_isSafe 0 0 22) [17, 31, 45, 59, 73, 118, 122, 123, 187, 188, 200] = kt at i17 ⊢
  refine am_ci (c := am_inb ((40 : Int32) * p0) 1280 = true) hp.1 ?_
  refine am_cx (pre := pr10_small) (f := fm10_small) (r := (some (.inl (fn10_small s ((hm_items s) (((40 : Int32) * p0)).toNatClampNeg))), (hm_w s), 0, 0)) ?_ ?_ ?_ ?_
  · exact ⟨s, ((hm_items s) (((40 : Int32) * p0)).toNatClampNeg), rfl, rfl, hp.2.1⟩
  · exact fe10_small s ((hm_items s) (((40 : Int32) * p0)).toNatClampNeg)
  · exact rfl
  have e : fn10_isSafe s p0 p1 = fn10_isSafe_c17 s p1 ((40 : Int32) * p0) (fn10_small s ((hm_items s) (((40 : Int32) * p0)).toNatClampNeg)) := by
    rw [fq10_isSafe]
  rw [e]
  exact i17 s p1 ((40 : Int32) * p0) (fn10_small s ((hm_items s) (((40 : Int32) * p0)).toNatClampNeg)) _ _ _ _ _ _ _ rfl rfl rfl rfl rfl rfl rfl hp.2.2
abbrev pr10_isSafe : List am_V → List am_C → Prop := fun a w => ∃ (s : hs) (p0 : Int32) (p1 : Int32), a = [.inr (.inl 0), .inl p0, .inl p1] ∧ w = (hm_w s) ∧ wp10_isSafe s p0 p1
noncomputable def fm10_isSafe : am_M := fun a w => (fun (z : Int32) => (some (.inl z), (hm_w (hm_st w 0)), 0, 0)) (fn10_isSafe (hm_st w 0) (am_i (am_an a 1)) (am_i (am_an a 2)))
theorem fe10_isSafe (s : hs) (p0 : Int32) (p1 : Int32) : fm10_isSafe [.inr (.inl 0), .inl p0, .inl p1] (hm_w s) = (some (.inl (fn10_isSafe s p0 p1)), (hm_w s), 0, 0) := rfl
set_option maxRecDepth 100000 in
set_option maxHeartbeats 4000000 in
theorem rn10_isSafe : ∀ (a : List am_V) (w : List am_C), pr10_isSafe a w → ∃ nq, am_ev (am_mk kb10_isSafe (fm10_isSafe a w).2.2.1 (fm10_isSafe a w).2.2.2 w.length) [17, 31, 45, 59, 73, 118, 122, 123, 187, 188, 200] nq (0, am_L0 a 11, [], w, 0, 0) = some ((fm10_isSafe a w).1, (fm10_isSafe a w).2.1) := by
  rintro a w ⟨s, p0, p1, rfl, rfl, hp⟩
  rw [fe10_isSafe s p0 p1]
  exact am_lf_ev (re10_isSafe s p0 p1 hp)
theorem rl10_isSafe : ∀ (a : List am_V) (w : List am_C), pr10_isSafe a w → a.length ≤ 11 := by
  rintro a w ⟨s, p0, p1, rfl, rfl, hp⟩
  exact Nat.le_of_ble_eq_true rfl
theorem pa10_isSafe : ∀ a w, pr10_isSafe a w → ∃ q a' ci fs r, a = .inr (.inl q) :: a' ∧ w[q]? = some (.inr (ci, fs)) ∧ hn_cl[ci]? = some r ∧ r.1 = hn_R10 := by
  rintro a w ⟨s, p0, p1, rfl, rfl, hp⟩
  exact ⟨0, _, 10, _, _, rfl, rfl, rfl, rfl⟩
set_option maxRecDepth 100000 in
set_option maxHeartbeats 4000000 in
theorem km10_isSafe {l : Launch} {E : (Nat → Prop) → State → Prop} {D : va_G} {ou : Nat → Nat} {ca : Nat → ClassId} (hE : am_EC E) : hg_Met l E D ou ca hy10_isSafe prog_12_method_62_code 11 (some .boolean) 1 pr10_isSafe fm10_isSafe := by
  refine am_met (B := kb10_isSafe) (cuts := [17, 31, 45, 59, 73, 118, 122, 123, 187, 188, 200]) (nt := 5) (by decide +kernel) rfl rfl (hg_tys_ok ca) ?_ (by decide) rl10_isSafe ?_ rn10_isSafe
  · exact fun t ht => List.mem_cons_of_mem _ (hg_arr t ht)
  · intro a w hp ad p e R s m args below meth c hR X hEs hnm
    have hR1 : 1 ≤ R.frames ∧ 40 ≤ R.locals := by rw [hR]; exact ⟨Nat.le_refl _, Nat.le_refl _⟩
    refine ⟨kd10_isSafe_ok, fun index ci fi mode hq => kf10_ok X.2.2.2.2.1 (index, ci, fi, mode) (am_as_mem hq), fun index ci fs hq => (am_no hq).elim, fun x v hq => (am_no hq).elim, ?_, fun o t n f hq => (am_no hq).elim, rfl, rfl, by rw [hR]; exact Nat.le_refl _, by rw [hR]; exact Nat.le_refl _⟩
    intro pc sel n0 pre0 f0 hq
    have hz : ∀ q ∈ ki10_isSafe, am_CK p l e R s m args below meth c D hn_cl (va_A (am_w ad ou ca w) s.heap.size) ou ca 11 q.1 q.2.2.1 q.2.2.2.1 q.2.2.2.2 := by
      refine am_allc (am_ck_V (n := 1) X hEs hE (km10_small hE) (hg_good (gw_mem 1316 (by decide +kernel))) rfl (List.mem_cons_of_mem _ (gw_mem 76 (by decide +kernel))) (List.mem_cons_of_mem _ (gw_mem 1313 (by decide +kernel))) (List.mem_cons_of_mem _ (gw_mem 1315 (by decide +kernel))) (List.mem_cons_of_mem _ (gw_mem 55 (by decide +kernel))) pa10_small (by decide +kernel) ⟨Nat.le_trans (by decide) hR1.1, Nat.le_trans (by decide) hR1.2⟩ (kd10_isSafe_ok (12, .invokevirtual 273, 3) (List.mem_of_getElem? (i := 9) rfl))) (am_allc (am_ck_V (n := 1) X hEs hE (km10_small hE) (hg_good (gw_mem 1316 (by decide +kernel))) rfl (List.mem_cons_of_mem _ (gw_mem 76 (by decide +kernel))) (List.mem_cons_of_mem _ (gw_mem 1313 (by decide +kernel))) (List.mem_cons_of_mem _ (gw_mem 1315 (by decide +kernel))) (List.mem_cons_of_mem _ (gw_mem 55 (by decide +kernel))) pa10_small (by decide +kernel) ⟨Nat.le_trans (by decide) hR1.1, Nat.le_trans (by decide) hR1.2⟩ (kd10_isSafe_ok (26, .invokevirtual 273, 3) (List.mem_of_getElem? (i := 18) rfl))) (am_allc (am_ck_V (n := 1) X hEs hE (km10_small hE) (hg_good (gw_mem 1316 (by decide +kernel))) rfl (List.mem_cons_of_mem _ (gw_mem 76 (by decide +kernel))) (List.mem_cons_of_mem _ (gw_mem 1313 (by decide +kernel))) (List.mem_cons_of_mem _ (gw_mem 1315 (by decide +kernel))) (List.mem_cons_of_mem _ (gw_mem 55 (by decide +kernel))) pa10_small (by decide +kernel) ⟨Nat.le_trans (by decide) hR1.1, Nat.le_trans (by decide) hR1.2⟩ (kd10_isSafe_ok (40, .invokevirtual 273, 3) (List.mem_of_getElem? (i := 27) rfl))) (am_allc (am_ck_V (n := 1) X hEs hE (km10_small hE) (hg_good (gw_mem 1316 (by decide +kernel))) rfl (List.mem_cons_of_mem _ (gw_mem 76 (by decide +kernel))) (List.mem_cons_of_mem _ (gw_mem 1313 (by decide +kernel))) (List.mem_cons_of_mem _ (gw_mem 1315 (by decide +kernel))) (List.mem_cons_of_mem _ (gw_mem 55 (by decide +kernel))) pa10_small (by decide +kernel) ⟨Nat.le_trans (by decide) hR1.1, Nat.le_trans (by decide) hR1.2⟩ (kd10_isSafe_ok (54, .invokevirtual 273, 3) (List.mem_of_getElem? (i := 36) rfl))) (am_allc (am_ck_V (n := 1) X hEs hE (km10_small hE) (hg_good (gw_mem 1316 (by decide +kernel))) rfl (List.mem_cons_of_mem _ (gw_mem 76 (by decide +kernel))) (List.mem_cons_of_mem _ (gw_mem 1313 (by decide +kernel))) (List.mem_cons_of_mem _ (gw_mem 1315 (by decide +kernel))) (List.mem_cons_of_mem _ (gw_mem 55 (by decide +kernel))) pa10_small (by decide +kernel) ⟨Nat.le_trans (by decide) hR1.1, Nat.le_trans (by decide) hR1.2⟩ (kd10_isSafe_ok (68, .invokevirtual 273, 3) (List.mem_of_getElem? (i := 45) rfl))) (am_allc (am_ck_V (n := 1) X hEs hE (km10_small hE) (hg_good (gw_mem 1316 (by decide +kernel))) rfl (List.mem_cons_of_mem _ (gw_mem 76 (by decide +kernel))) (List.mem_cons_of_mem _ (gw_mem 1313 (by decide +kernel))) (List.mem_cons_of_mem _ (gw_mem 1315 (by decide +kernel))) (List.mem_cons_of_mem _ (gw_mem 55 (by decide +kernel))) pa10_small (by decide +kernel) ⟨Nat.le_trans (by decide) hR1.1, Nat.le_trans (by decide) hR1.2⟩ (kd10_isSafe_ok (175, .invokevirtual 273, 3) (List.mem_of_getElem? (i := 97) rfl))) (am_all0))))))
    exact hz _ (am_as_mem hq)
