noncomputable def ki6_at : List (Nat × Option (List Nat) × Nat × (List am_V → List am_C → Prop) × am_M) := []
noncomputable def kb6_at : am_B := (kd6_at, am_as kf6, hn_ty, fun _ => none, fun _ => none, am_as ki6_at, fun _ => none, 5, 2, (some .char))
noncomputable def fn6_at (n : Nat) (t : qt6) (p0 : Int32) : Int32 := Classical.choose (⟨_, rfl⟩ : ∃ z : Int32, z = (if p0 < 0 then (0 : Int32) else (if (qg6_length t) ≤ p0 then (0 : Int32) else (if (Int32.ofNat n) ≤ p0 then (0 : Int32) else ((qg6_chars t) (p0).toNatClampNeg)))))
theorem fq6_at (n : Nat) (t : qt6) (p0 : Int32) : fn6_at n t p0 = (if p0 < 0 then (0 : Int32) else (if (qg6_length t) ≤ p0 then (0 : Int32) else (if (Int32.ofNat n) ≤ p0 then (0 : Int32) else ((qg6_chars t) (p0).toNatClampNeg)))) := Classical.choose_spec (⟨_, rfl⟩ : ∃ z : Int32, z = (if p0 < 0 then (0 : Int32) else (if (qg6_length t) ≤ p0 then (0 : Int32) else (if (Int32.ofNat n) ≤ p0 then (0 : Int32) else ((qg6_chars t) (p0).toNatClampNeg)))))
def wp6_at (n : Nat) (t : qt6) (p0 : Int32) : Prop := ((p0 < 0 → True) ∧ (¬ p0 < 0 → (((qg6_length t) ≤ p0 → True) ∧ (¬ (qg6_length t) ≤ p0 → (((Int32.ofNat n) ≤ p0 → True) ∧ (¬ (Int32.ofNat n) ≤ p0 → (am_inb p0 n = true ∧ (am_fit .char (.inl ((qg6_chars t) (p0).toNatClampNeg)) = true))))))))
set_option maxRecDepth 100000 in
set_option maxHeartbeats 4000000 in
theorem re6_at (n : Nat) (t : qt6) (p0 : Int32) (hp : wp6_at n t p0) : am_lf (am_mk kb6_at 0 0 2) [] (0, am_L0 [.inr (.inl 0), .inl p0] 2, [], (kw_T n t), 0, 0) = some (some (.inl (fn6_at n t p0)), (kw_T n t)) := by
  unfold wp6_at at hp
  refine am_lf_eq ?_
  generalize am_lf (am_mk kb6_at 0 0 2) [] = kt
  refine am_if (c := p0 < 0) (fun h1 => ?_) (fun h1 => ?_)
  · have e : fn6_at n t p0 = (0 : Int32) := by
      rw [fq6_at]
      rw [if_pos h1]
    rw [e] <;> rfl
  · have q1 := hp.2 h1
    refine am_if (c := (qg6_length t) ≤ p0) (fun h2 => ?_) (fun h2 => ?_)
    · have e : fn6_at n t p0 = (0 : Int32) := by
        rw [fq6_at]
        rw [if_neg h1, if_pos h2]
      rw [e] <;> rfl
    · have q2 := q1.2 h2
      refine am_if (c := (Int32.ofNat n) ≤ p0) (fun h3 => ?_) (fun h3 => ?_)
      · have e : fn6_at n t p0 = (0 : Int32) := by
          rw [fq6_at]
          rw [if_neg h1, if_neg h2, if_pos h3]
        rw [e] <;> rfl
      · have q3 := q2.2 h3
        refine am_ci (c := am_inb p0 n = true) q3.1 ?_
        refine am_ci (c := am_fit .char (.inl ((qg6_chars t) (p0).toNatClampNeg)) = true) q3.2 ?_
        have e : fn6_at n t p0 = ((qg6_chars t) (p0).toNatClampNeg) := by
          rw [fq6_at]
          rw [if_neg h1, if_neg h2, if_neg h3]
        rw [e] <;> rfl
abbrev pr6_at : List am_V → List am_C → Prop := fun a w => ∃ (n : Nat) (t : qt6) (p0 : Int32), a = [.inr (.inl 0), .inl p0] ∧ w = (kw_T n t) ∧ wp6_at n t p0
noncomputable def fm6_at : am_M := fun a w => (fun (z : Int32) => (some (.inl z), (kw_T (am_gn w 1) (qs6 w 0)), 0, 0)) (fn6_at (am_gn w 1) (qs6 w 0) (am_i (am_an a 1)))
theorem fe6_at (n : Nat) (t : qt6) (p0 : Int32) : fm6_at [.inr (.inl 0), .inl p0] (kw_T n t) = (some (.inl (fn6_at n t p0)), (kw_T n t), 0, 0) := rfl
set_option maxRecDepth 100000 in
set_option maxHeartbeats 4000000 in
theorem rn6_at : ∀ (a : List am_V) (w : List am_C), pr6_at a w → ∃ nq, am_ev (am_mk kb6_at (fm6_at a w).2.2.1 (fm6_at a w).2.2.2 w.length) [] nq (0, am_L0 a 2, [], w, 0, 0) = some ((fm6_at a w).1, (fm6_at a w).2.1) := by
  rintro a w ⟨n, t, p0, rfl, rfl, hp⟩
  rw [fe6_at n t p0]
  exact am_lf_ev (re6_at n t p0 hp)
theorem rl6_at : ∀ (a : List am_V) (w : List am_C), pr6_at a w → a.length ≤ 2 := by
  rintro a w ⟨n, t, p0, rfl, rfl, hp⟩
  exact Nat.le_of_ble_eq_true rfl
theorem pa6_at : ∀ a w, pr6_at a w → ∃ q a' ci fs r, a = .inr (.inl q) :: a' ∧ w[q]? = some (.inr (ci, fs)) ∧ hn_cl[ci]? = some r ∧ r.1 = hn_R6 := by
  rintro a w ⟨n, t, p0, rfl, rfl, hp⟩
  exact ⟨0, _, 6, _, _, rfl, rfl, rfl, rfl⟩
set_option maxRecDepth 100000 in
set_option maxHeartbeats 4000000 in
theorem km6_at {l : Launch} {E : (Nat → Prop) → State → Prop} {D : va_G} {ou : Nat → Nat} {ca : Nat → ClassId} (hE : hg_E E ou) : hg_Met l E D ou ca hy6_at prog_8_method_5_code 2 (some .char) 0 pr6_at fm6_at := by
  refine am_met (B := kb6_at) (cuts := []) (nt := 5) (by decide +kernel) rfl rfl (hg_tys_ok ca) ?_ (by decide) rl6_at ?_ rn6_at
  · exact fun t ht => List.mem_cons_of_mem _ (hg_arr t ht)
  · intro a w hp ad p e R s m args below meth c hR X hEs hnm
    have hR1 : 0 ≤ R.frames ∧ 0 ≤ R.locals := by rw [hR]; exact ⟨Nat.le_refl _, Nat.le_refl _⟩
    have hN := hE.2.1 _ _ hEs
    refine ⟨kd6_at_ok, fun index ci fi mode hq => kf6_ok X.2.2.2.2.1 hN.1 (index, ci, fi, mode) (am_as_mem hq), fun index ci fs hq => (am_no hq).elim, fun x v hq => (am_no hq).elim, ?_, fun o t n f hq => (am_no hq).elim, rfl, rfl, by rw [hR]; exact Nat.le_refl _, by rw [hR]; exact Nat.le_refl _⟩
    intro pc sel n0 pre0 f0 hq
    exact (am_no hq).elim
noncomputable def ki6_empty : List (Nat × Option (List Nat) × Nat × (List am_V → List am_C → Prop) × am_M) := []
noncomputable def kb6_empty : am_B := (kd6_empty, am_as kf6, hn_ty, fun _ => none, fun _ => none, am_as ki6_empty, fun _ => none, 5, 2, (some .int))
noncomputable def fn6_empty (n : Nat) (t : qt6) : Int32 × qt6 := Classical.choose (⟨_, rfl⟩ : ∃ z : Int32 × qt6, z = ((qg6_length t), (qu6_spilled (qu6_length t (0 : Int32)) (0 : Int32))))
theorem fq6_empty (n : Nat) (t : qt6) : fn6_empty n t = ((qg6_length t), (qu6_spilled (qu6_length t (0 : Int32)) (0 : Int32))) := Classical.choose_spec (⟨_, rfl⟩ : ∃ z : Int32 × qt6, z = ((qg6_length t), (qu6_spilled (qu6_length t (0 : Int32)) (0 : Int32))))
def wp6_empty (n : Nat) (t : qt6) : Prop := True
set_option maxRecDepth 100000 in
set_option maxHeartbeats 4000000 in
theorem re6_empty (n : Nat) (t : qt6) (hp : wp6_empty n t) : am_lf (am_mk kb6_empty 0 0 2) [] (0, am_L0 [.inr (.inl 0)] 2, [], (kw_T n t), 0, 0) = some (some (.inl ((fn6_empty n t).1)), (kw_T n ((fn6_empty n t).2))) := by
  unfold wp6_empty at hp
  refine am_lf_eq ?_
  generalize am_lf (am_mk kb6_empty 0 0 2) [] = kt
  refine am_sp (w' := (kw_T n (qu6_length t (0 : Int32)))) (kp_T_0_length n t (0 : Int32)) ?_
  refine am_sp (w' := (kw_T n (qu6_spilled (qu6_length t (0 : Int32)) (0 : Int32)))) (kp_T_0_spilled n (qu6_length t (0 : Int32)) (0 : Int32)) ?_
  have e : fn6_empty n t = ((qg6_length t), (qu6_spilled (qu6_length t (0 : Int32)) (0 : Int32))) := by
    rw [fq6_empty]
  rw [e] <;> rfl
abbrev pr6_empty : List am_V → List am_C → Prop := fun a w => ∃ (n : Nat) (t : qt6), a = [.inr (.inl 0)] ∧ w = (kw_T n t) ∧ wp6_empty n t
noncomputable def fm6_empty : am_M := fun a w => (fun (z : Int32 × qt6) => (some (.inl (z.1)), (kw_T (am_gn w 1) (z.2)), 0, 0)) (fn6_empty (am_gn w 1) (qs6 w 0))
theorem fe6_empty (n : Nat) (t : qt6) : fm6_empty [.inr (.inl 0)] (kw_T n t) = (some (.inl ((fn6_empty n t).1)), (kw_T n ((fn6_empty n t).2)), 0, 0) := rfl
set_option maxRecDepth 100000 in
set_option maxHeartbeats 4000000 in
theorem rn6_empty : ∀ (a : List am_V) (w : List am_C), pr6_empty a w → ∃ nq, am_ev (am_mk kb6_empty (fm6_empty a w).2.2.1 (fm6_empty a w).2.2.2 w.length) [] nq (0, am_L0 a 2, [], w, 0, 0) = some ((fm6_empty a w).1, (fm6_empty a w).2.1) := by
  rintro a w ⟨n, t, rfl, rfl, hp⟩
  rw [fe6_empty n t]
  exact am_lf_ev (re6_empty n t hp)
theorem rl6_empty : ∀ (a : List am_V) (w : List am_C), pr6_empty a w → a.length ≤ 2 := by
  rintro a w ⟨n, t, rfl, rfl, hp⟩
  exact Nat.le_of_ble_eq_true rfl
theorem pa6_empty : ∀ a w, pr6_empty a w → ∃ q a' ci fs r, a = .inr (.inl q) :: a' ∧ w[q]? = some (.inr (ci, fs)) ∧ hn_cl[ci]? = some r ∧ r.1 = hn_R6 := by
  rintro a w ⟨n, t, rfl, rfl, hp⟩
  exact ⟨0, _, 6, _, _, rfl, rfl, rfl, rfl⟩
set_option maxRecDepth 100000 in
set_option maxHeartbeats 4000000 in
theorem km6_empty {l : Launch} {E : (Nat → Prop) → State → Prop} {D : va_G} {ou : Nat → Nat} {ca : Nat → ClassId} (hE : hg_E E ou) : hg_Met l E D ou ca hy6_empty prog_8_method_6_code 2 (some .int) 0 pr6_empty fm6_empty := by
  refine am_met (B := kb6_empty) (cuts := []) (nt := 5) (by decide +kernel) rfl rfl (hg_tys_ok ca) ?_ (by decide) rl6_empty ?_ rn6_empty
  · exact fun t ht => List.mem_cons_of_mem _ (hg_arr t ht)
  · intro a w hp ad p e R s m args below meth c hR X hEs hnm
    have hR1 : 0 ≤ R.frames ∧ 0 ≤ R.locals := by rw [hR]; exact ⟨Nat.le_refl _, Nat.le_refl _⟩
    have hN := hE.2.1 _ _ hEs
    refine ⟨kd6_empty_ok, fun index ci fi mode hq => kf6_ok X.2.2.2.2.1 hN.1 (index, ci, fi, mode) (am_as_mem hq), fun index ci fs hq => (am_no hq).elim, fun x v hq => (am_no hq).elim, ?_, fun o t n f hq => (am_no hq).elim, rfl, rfl, by rw [hR]; exact Nat.le_refl _, by rw [hR]; exact Nat.le_refl _⟩
    intro pc sel n0 pre0 f0 hq
    exact (am_no hq).elim
noncomputable def ki2_isVariable : List (Nat × Option (List Nat) × Nat × (List am_V → List am_C → Prop) × am_M) := []
noncomputable def kb2_isVariable : am_B := (kd2_isVariable, am_as kf2, hn_ty, fun _ => none, fun _ => none, am_as ki2_isVariable, fun _ => none, 5, 2, (some .boolean))
noncomputable def fn2_isVariable (m : qt2) (p0 : Int32) : Int32 := Classical.choose (⟨_, rfl⟩ : ∃ z : Int32, z = (if p0 < 0 then (0 : Int32) else (if (8 : Int32) ≤ p0 then (0 : Int32) else (1 : Int32))))
theorem fq2_isVariable (m : qt2) (p0 : Int32) : fn2_isVariable m p0 = (if p0 < 0 then (0 : Int32) else (if (8 : Int32) ≤ p0 then (0 : Int32) else (1 : Int32))) := Classical.choose_spec (⟨_, rfl⟩ : ∃ z : Int32, z = (if p0 < 0 then (0 : Int32) else (if (8 : Int32) ≤ p0 then (0 : Int32) else (1 : Int32))))
def wp2_isVariable (m : qt2) (p0 : Int32) : Prop := True
set_option maxRecDepth 100000 in
set_option maxHeartbeats 4000000 in
theorem re2_isVariable (m : qt2) (p0 : Int32) (hp : wp2_isVariable m p0) : am_lf (am_mk kb2_isVariable 0 0 5) [] (0, am_L0 [.inr (.inl 0), .inl p0] 2, [], (kw_I m), 0, 0) = some (some (.inl (fn2_isVariable m p0)), (kw_I m)) := by
  unfold wp2_isVariable at hp
  refine am_lf_eq ?_
  generalize am_lf (am_mk kb2_isVariable 0 0 5) [] = kt
  refine am_if (c := p0 < 0) (fun h1 => ?_) (fun h1 => ?_)
  · have e : fn2_isVariable m p0 = (0 : Int32) := by
      rw [fq2_isVariable]
      rw [if_pos h1]
    rw [e] <;> rfl
  · refine am_if (c := (8 : Int32) ≤ p0) (fun h2 => ?_) (fun h2 => ?_)
    · have e : fn2_isVariable m p0 = (0 : Int32) := by
        rw [fq2_isVariable]
        rw [if_neg h1, if_pos h2]
      rw [e] <;> rfl
    · have e : fn2_isVariable m p0 = (1 : Int32) := by
        rw [fq2_isVariable]
        rw [if_neg h1, if_neg h2]
      rw [e] <;> rfl
abbrev pr2_isVariable : List am_V → List am_C → Prop := fun a w => ∃ (m : qt2) (p0 : Int32), a = [.inr (.inl 0), .inl p0] ∧ w = (kw_I m) ∧ wp2_isVariable m p0
noncomputable def fm2_isVariable : am_M := fun a w => (fun (z : Int32) => (some (.inl z), (kw_I (qs2 w 0)), 0, 0)) (fn2_isVariable (qs2 w 0) (am_i (am_an a 1)))
theorem fe2_isVariable (m : qt2) (p0 : Int32) : fm2_isVariable [.inr (.inl 0), .inl p0] (kw_I m) = (some (.inl (fn2_isVariable m p0)), (kw_I m), 0, 0) := rfl
set_option maxRecDepth 100000 in
set_option maxHeartbeats 4000000 in
theorem rn2_isVariable : ∀ (a : List am_V) (w : List am_C), pr2_isVariable a w → ∃ nq, am_ev (am_mk kb2_isVariable (fm2_isVariable a w).2.2.1 (fm2_isVariable a w).2.2.2 w.length) [] nq (0, am_L0 a 2, [], w, 0, 0) = some ((fm2_isVariable a w).1, (fm2_isVariable a w).2.1) := by
  rintro a w ⟨m, p0, rfl, rfl, hp⟩
  rw [fe2_isVariable m p0]
  exact am_lf_ev (re2_isVariable m p0 hp)
theorem rl2_isVariable : ∀ (a : List am_V) (w : List am_C), pr2_isVariable a w → a.length ≤ 2 := by
  rintro a w ⟨m, p0, rfl, rfl, hp⟩
  exact Nat.le_of_ble_eq_true rfl
theorem pa2_isVariable : ∀ a w, pr2_isVariable a w → ∃ q a' ci fs r, a = .inr (.inl q) :: a' ∧ w[q]? = some (.inr (ci, fs)) ∧ hn_cl[ci]? = some r ∧ r.1 = hn_R2 := by
  rintro a w ⟨m, p0, rfl, rfl, hp⟩
  exact ⟨0, _, 2, _, _, rfl, rfl, rfl, rfl⟩
set_option maxRecDepth 100000 in
set_option maxHeartbeats 4000000 in
theorem km2_isVariable {l : Launch} {E : (Nat → Prop) → State → Prop} {D : va_G} {ou : Nat → Nat} {ca : Nat → ClassId} (hE : hg_E E ou) : hg_Met l E D ou ca hy2_isVariable prog_4_method_2_code 2 (some .boolean) 0 pr2_isVariable fm2_isVariable := by
  refine am_met (B := kb2_isVariable) (cuts := []) (nt := 5) (by decide +kernel) rfl rfl (hg_tys_ok ca) ?_ (by decide) rl2_isVariable ?_ rn2_isVariable
  · exact fun t ht => List.mem_cons_of_mem _ (hg_arr t ht)
  · intro a w hp ad p e R s m args below meth c hR X hEs hnm
    have hR1 : 0 ≤ R.frames ∧ 0 ≤ R.locals := by rw [hR]; exact ⟨Nat.le_refl _, Nat.le_refl _⟩
    have hN := hE.2.1 _ _ hEs
    refine ⟨kd2_isVariable_ok, fun index ci fi mode hq => kf2_ok X.2.2.2.2.1 hN.1 (index, ci, fi, mode) (am_as_mem hq), fun index ci fs hq => (am_no hq).elim, fun x v hq => (am_no hq).elim, ?_, fun o t n f hq => (am_no hq).elim, rfl, rfl, by rw [hR]; exact Nat.le_refl _, by rw [hR]; exact Nat.le_refl _⟩
    intro pc sel n0 pre0 f0 hq
    exact (am_no hq).elim
noncomputable def ki2_count : List (Nat × Option (List Nat) × Nat × (List am_V → List am_C → Prop) × am_M) := [(2, none, 2, pr2_isVariable, fm2_isVariable)]
noncomputable def kb2_count : am_B := (kd2_count, am_as kf2, hn_ty, fun _ => none, fun _ => none, am_as ki2_count, fun _ => none, 5, 2, (some .int))
noncomputable def fn2_count (m : qt2) (p0 : Int32) : Int32 := Classical.choose (⟨_, rfl⟩ : ∃ z : Int32, z = (if (fn2_isVariable m p0) = 0 then (0 : Int32) else ((qg2_counts m) (p0).toNatClampNeg)))
theorem fq2_count (m : qt2) (p0 : Int32) : fn2_count m p0 = (if (fn2_isVariable m p0) = 0 then (0 : Int32) else ((qg2_counts m) (p0).toNatClampNeg)) := Classical.choose_spec (⟨_, rfl⟩ : ∃ z : Int32, z = (if (fn2_isVariable m p0) = 0 then (0 : Int32) else ((qg2_counts m) (p0).toNatClampNeg)))
def wp2_count (m : qt2) (p0 : Int32) : Prop := ((wp2_isVariable m p0) ∧ (((fn2_isVariable m p0) = 0 → True) ∧ (¬ (fn2_isVariable m p0) = 0 → (am_inb p0 8 = true))))
set_option maxRecDepth 100000 in
set_option maxHeartbeats 4000000 in
theorem re2_count (m : qt2) (p0 : Int32) (hp : wp2_count m p0) : am_lf (am_mk kb2_count 0 0 5) [] (0, am_L0 [.inr (.inl 0), .inl p0] 2, [], (kw_I m), 0, 0) = some (some (.inl (fn2_count m p0)), (kw_I m)) := by
  unfold wp2_count at hp
  refine am_lf_eq ?_
  generalize am_lf (am_mk kb2_count 0 0 5) [] = kt
  refine am_cx (pre := pr2_isVariable) (f := fm2_isVariable) (r := (some (.inl (fn2_isVariable m p0)), (kw_I m), 0, 0)) ?_ ?_ ?_ ?_
  · exact ⟨m, p0, rfl, rfl, hp.1⟩
  · exact fe2_isVariable m p0
  · exact rfl
  refine am_if (c := (fn2_isVariable m p0) = 0) (fun h1 => ?_) (fun h1 => ?_)
  · have e : fn2_count m p0 = (0 : Int32) := by
      rw [fq2_count]
      rw [if_pos h1]
    rw [e] <;> rfl
  · have q1 := hp.2.2 h1
    refine am_ci (c := am_inb p0 8 = true) q1 ?_
    have e : fn2_count m p0 = ((qg2_counts m) (p0).toNatClampNeg) := by
      rw [fq2_count]
      rw [if_neg h1]
    rw [e] <;> rfl
abbrev pr2_count : List am_V → List am_C → Prop := fun a w => ∃ (m : qt2) (p0 : Int32), a = [.inr (.inl 0), .inl p0] ∧ w = (kw_I m) ∧ wp2_count m p0
noncomputable def fm2_count : am_M := fun a w => (fun (z : Int32) => (some (.inl z), (kw_I (qs2 w 0)), 0, 0)) (fn2_count (qs2 w 0) (am_i (am_an a 1)))
theorem fe2_count (m : qt2) (p0 : Int32) : fm2_count [.inr (.inl 0), .inl p0] (kw_I m) = (some (.inl (fn2_count m p0)), (kw_I m), 0, 0) := rfl
set_option maxRecDepth 100000 in
set_option maxHeartbeats 4000000 in
theorem rn2_count : ∀ (a : List am_V) (w : List am_C), pr2_count a w → ∃ nq, am_ev (am_mk kb2_count (fm2_count a w).2.2.1 (fm2_count a w).2.2.2 w.length) [] nq (0, am_L0 a 2, [], w, 0, 0) = some ((fm2_count a w).1, (fm2_count a w).2.1) := by
  rintro a w ⟨m, p0, rfl, rfl, hp⟩
  rw [fe2_count m p0]
  exact am_lf_ev (re2_count m p0 hp)
theorem rl2_count : ∀ (a : List am_V) (w : List am_C), pr2_count a w → a.length ≤ 2 := by
  rintro a w ⟨m, p0, rfl, rfl, hp⟩
  exact Nat.le_of_ble_eq_true rfl
theorem pa2_count : ∀ a w, pr2_count a w → ∃ q a' ci fs r, a = .inr (.inl q) :: a' ∧ w[q]? = some (.inr (ci, fs)) ∧ hn_cl[ci]? = some r ∧ r.1 = hn_R2 := by
  rintro a w ⟨m, p0, rfl, rfl, hp⟩
  exact ⟨0, _, 2, _, _, rfl, rfl, rfl, rfl⟩
set_option maxRecDepth 100000 in
set_option maxHeartbeats 4000000 in
theorem km2_count {l : Launch} {E : (Nat → Prop) → State → Prop} {D : va_G} {ou : Nat → Nat} {ca : Nat → ClassId} (hE : hg_E E ou) : hg_Met l E D ou ca hy2_count prog_4_method_3_code 2 (some .int) 1 pr2_count fm2_count := by
  refine am_met (B := kb2_count) (cuts := []) (nt := 5) (by decide +kernel) rfl rfl (hg_tys_ok ca) ?_ (by decide) rl2_count ?_ rn2_count
  · exact fun t ht => List.mem_cons_of_mem _ (hg_arr t ht)
  · intro a w hp ad p e R s m args below meth c hR X hEs hnm
    have hR1 : 1 ≤ R.frames ∧ 40 ≤ R.locals := by rw [hR]; exact ⟨Nat.le_refl _, Nat.le_refl _⟩
    have hN := hE.2.1 _ _ hEs
    refine ⟨kd2_count_ok, fun index ci fi mode hq => kf2_ok X.2.2.2.2.1 hN.1 (index, ci, fi, mode) (am_as_mem hq), fun index ci fs hq => (am_no hq).elim, fun x v hq => (am_no hq).elim, ?_, fun o t n f hq => (am_no hq).elim, rfl, rfl, by rw [hR]; exact Nat.le_refl _, by rw [hR]; exact Nat.le_refl _⟩
    intro pc sel n0 pre0 f0 hq
    have hz : ∀ q ∈ ki2_count, am_CK p l e R s m args below meth c D hn_cl (va_A (am_w ad ou ca w) s.heap.size) ou ca 2 q.1 q.2.2.1 q.2.2.2.1 q.2.2.2.2 := by
      refine am_allc (am_ck_V (n := 1) X hEs hE.1 (km2_isVariable hE) (hg_good (gw_mem 700 (by decide +kernel))) rfl (List.mem_cons_of_mem _ (gw_mem 71 (by decide +kernel))) (List.mem_cons_of_mem _ (gw_mem 721 (by decide +kernel))) (List.mem_cons_of_mem _ (gw_mem 698 (by decide +kernel))) (List.mem_cons_of_mem _ (gw_mem 699 (by decide +kernel))) pa2_isVariable (by decide +kernel) ⟨Nat.le_trans (by decide) hR1.1, Nat.le_trans (by decide) hR1.2⟩ (kd2_count_ok (2, .invokevirtual 25, 3) (List.mem_of_getElem? (i := 2) rfl))) (am_all0)
    exact hz _ (am_as_mem hq)
noncomputable def ki2_keep : List (Nat × Option (List Nat) × Nat × (List am_V → List am_C → Prop) × am_M) := [(2, some [0, 1, 2, 3, 4], 2, pr2_isVariable, fm2_isVariable), (66, some [5, 6], 2, pr6_at, fm6_at)]
noncomputable def kb2_keep : am_B := (kd2_keep, am_as kf2, hn_ty, fun _ => none, fun _ => none, am_as ki2_keep, fun _ => none, 5, 5, (some .boolean))
noncomputable def fn2_keep_c43 : Nat → qt2 → qt6 → Int32 → Int32 → Int32 → Int32 × qt2
  | 0, m, _, _, _, _ => (0, m)
  | fu + 1, m, t, v1, v3, v4 => (if (qg6_length t) ≤ v4 then ((1 : Int32), (qa2_counts (qa2_lengths m ((v3).toNatClampNeg) (qg6_length t)) ((v1).toNatClampNeg) (((qg2_counts (qa2_lengths m ((v3).toNatClampNeg) (qg6_length t))) (v1).toNatClampNeg) + (1 : Int32)))) else (fn2_keep_c43 fu (qa2_chars m ((((v3 * (40 : Int32)) + v4)).toNatClampNeg) (vp_nar .char (fn6_at 40 t v4))) t v1 v3 (v4 + (1 : Int32))))
def wp2_keep_c43 : Nat → qt2 → qt6 → Int32 → Int32 → Int32 → Prop
  | 0, _, _, _, _, _ => False
  | fu + 1, m, t, v1, v3, v4 => (((qg6_length t) ≤ v4 → (am_inb v3 32 = true ∧ (am_inb v1 8 = true ∧ (am_inb v1 8 = true)))) ∧ (¬ (qg6_length t) ≤ v4 → ((wp6_at 40 t v4) ∧ (am_inb ((v3 * (40 : Int32)) + v4) 1280 = true ∧ (wp2_keep_c43 fu (qa2_chars m ((((v3 * (40 : Int32)) + v4)).toNatClampNeg) (vp_nar .char (fn6_at 40 t v4))) t v1 v3 (v4 + (1 : Int32)))))))
set_option maxRecDepth 100000 in
set_option maxHeartbeats 4000000 in
theorem rc2_keep_43 : ∀ (fu : Nat) (m : qt2) (t : qt6) (v1 : Int32) (v3 : Int32) (v4 : Int32) , wp2_keep_c43 fu m t v1 v3 v4 → am_lf (am_mk kb2_keep 0 0 7) [43] (43, [some (.inr (.inl 0)), some (.inl v1), some (.inr (.inl 5)), some (.inl v3), some (.inl v4)], [], (kw_IT m t), 0, 0) = some (some (.inl ((fn2_keep_c43 fu m t v1 v3 v4).1)), (kw_IT ((fn2_keep_c43 fu m t v1 v3 v4).2) t)) := by
  intro fu
  induction fu with
  | zero =>
    intro m t v1 v3 v4 hp
    exact hp.elim
  | succ fu ih =>
    intro m t v1 v3 v4 hp
    unfold wp2_keep_c43 at hp
    refine am_lf_eq ?_
    generalize am_lf (am_mk kb2_keep 0 0 7) [43] = kt at ih ⊢
    refine am_if (c := (qg6_length t) ≤ v4) (fun h2 => ?_) (fun h2 => ?_)
    · have q2 := hp.1 h2
      refine am_ci (c := am_inb v3 32 = true) q2.1 ?_
      refine am_sp (w' := (kw_IT (qa2_lengths m ((v3).toNatClampNeg) (qg6_length t)) t)) (kp_IT_0_lengths m t ((v3).toNatClampNeg) (qg6_length t)) ?_
      refine am_ci (c := am_inb v1 8 = true) q2.2.1 ?_
      refine am_ci (c := am_inb v1 8 = true) q2.2.2 ?_
      refine am_sp (w' := (kw_IT (qa2_counts (qa2_lengths m ((v3).toNatClampNeg) (qg6_length t)) ((v1).toNatClampNeg) (((qg2_counts (qa2_lengths m ((v3).toNatClampNeg) (qg6_length t))) (v1).toNatClampNeg) + (1 : Int32))) t)) (kp_IT_0_counts (qa2_lengths m ((v3).toNatClampNeg) (qg6_length t)) t ((v1).toNatClampNeg) (((qg2_counts (qa2_lengths m ((v3).toNatClampNeg) (qg6_length t))) (v1).toNatClampNeg) + (1 : Int32))) ?_
      have e : fn2_keep_c43 (fu + 1) m t v1 v3 v4 = ((1 : Int32), (qa2_counts (qa2_lengths m ((v3).toNatClampNeg) (qg6_length t)) ((v1).toNatClampNeg) (((qg2_counts (qa2_lengths m ((v3).toNatClampNeg) (qg6_length t))) (v1).toNatClampNeg) + (1 : Int32)))) := by
        rw [fn2_keep_c43]
        rw [if_pos h2]
      rw [e] <;> rfl
    · have q2 := hp.2 h2
      refine am_cy (pre := pr6_at) (f := fm6_at) (a' := [.inr (.inl 0), .inl v4]) (wc := (kw_T 40 t)) (w' := (kw_IT m t)) (r := (some (.inl (fn6_at 40 t v4)), (kw_T 40 t), 0, 0)) ?_ ?_ ?_ ?_ ?_ ?_ ?_ ?_ ?_ ?_
      · exact ks_IT_T_1_o m t
      · rfl
      · rfl
      · exact ks_IT_T_1_s m t
      · exact ⟨40, t, v4, rfl, rfl, q2.1⟩
      · exact fe6_at 40 t v4
      · exact kwl_T 40 t
      · rfl
      · exact ks_IT_T_1_m m t t
      refine am_ci (c := am_inb ((v3 * (40 : Int32)) + v4) 1280 = true) q2.2.1 ?_
      refine am_sp (w' := (kw_IT (qa2_chars m ((((v3 * (40 : Int32)) + v4)).toNatClampNeg) (vp_nar .char (fn6_at 40 t v4))) t)) (kp_IT_0_chars m t ((((v3 * (40 : Int32)) + v4)).toNatClampNeg) (vp_nar .char (fn6_at 40 t v4))) ?_
      have e : fn2_keep_c43 (fu + 1) m t v1 v3 v4 = fn2_keep_c43 fu (qa2_chars m ((((v3 * (40 : Int32)) + v4)).toNatClampNeg) (vp_nar .char (fn6_at 40 t v4))) t v1 v3 (v4 + (1 : Int32)) := by
        rw [fn2_keep_c43]
        rw [if_neg h2]
      rw [e]
      exact ih (qa2_chars m ((((v3 * (40 : Int32)) + v4)).toNatClampNeg) (vp_nar .char (fn6_at 40 t v4))) t v1 v3 (v4 + (1 : Int32))  q2.2.2
noncomputable def fn2_keep (m : qt2) (t : qt6) (p0 : Int32) : Int32 × qt2 := Classical.choose (⟨_, rfl⟩ : ∃ z : Int32 × qt2, z = (if (fn2_isVariable m p0) = 0 then ((0 : Int32), m) else (if (4 : Int32) ≤ ((qg2_counts m) (p0).toNatClampNeg) then ((0 : Int32), m) else (if (qg6_length t) ≤ (40 : Int32) then (fn2_keep_c43 hg_fu m t p0 ((p0 * (4 : Int32)) + ((qg2_counts m) (p0).toNatClampNeg)) (0 : Int32)) else ((0 : Int32), m)))))
theorem fq2_keep (m : qt2) (t : qt6) (p0 : Int32) : fn2_keep m t p0 = (if (fn2_isVariable m p0) = 0 then ((0 : Int32), m) else (if (4 : Int32) ≤ ((qg2_counts m) (p0).toNatClampNeg) then ((0 : Int32), m) else (if (qg6_length t) ≤ (40 : Int32) then (fn2_keep_c43 hg_fu m t p0 ((p0 * (4 : Int32)) + ((qg2_counts m) (p0).toNatClampNeg)) (0 : Int32)) else ((0 : Int32), m)))) := Classical.choose_spec (⟨_, rfl⟩ : ∃ z : Int32 × qt2, z = (if (fn2_isVariable m p0) = 0 then ((0 : Int32), m) else (if (4 : Int32) ≤ ((qg2_counts m) (p0).toNatClampNeg) then ((0 : Int32), m) else (if (qg6_length t) ≤ (40 : Int32) then (fn2_keep_c43 hg_fu m t p0 ((p0 * (4 : Int32)) + ((qg2_counts m) (p0).toNatClampNeg)) (0 : Int32)) else ((0 : Int32), m)))))
def wp2_keep (m : qt2) (t : qt6) (p0 : Int32) : Prop := ((wp2_isVariable m p0) ∧ (((fn2_isVariable m p0) = 0 → True) ∧ (¬ (fn2_isVariable m p0) = 0 → (am_inb p0 8 = true ∧ (((4 : Int32) ≤ ((qg2_counts m) (p0).toNatClampNeg) → True) ∧ (¬ (4 : Int32) ≤ ((qg2_counts m) (p0).toNatClampNeg) → (((qg6_length t) ≤ (40 : Int32) → (am_inb p0 8 = true ∧ (wp2_keep_c43 hg_fu m t p0 ((p0 * (4 : Int32)) + ((qg2_counts m) (p0).toNatClampNeg)) (0 : Int32)))) ∧ (¬ (qg6_length t) ≤ (40 : Int32) → True))))))))
set_option maxRecDepth 100000 in
set_option maxHeartbeats 4000000 in
theorem re2_keep (m : qt2) (t : qt6) (p0 : Int32) (hp : wp2_keep m t p0) : am_lf (am_mk kb2_keep 0 0 7) [43] (0, am_L0 [.inr (.inl 0), .inl p0, .inr (.inl 5)] 5, [], (kw_IT m t), 0, 0) = some (some (.inl ((fn2_keep m t p0).1)), (kw_IT ((fn2_keep m t p0).2) t)) := by
  unfold wp2_keep at hp
  have i43 := @rc2_keep_43
  refine am_lf_eq ?_
  generalize am_lf (am_mk kb2_keep 0 0 7) [43] = kt at i43 ⊢
  refine am_cy (pre := pr2_isVariable) (f := fm2_isVariable) (a' := [.inr (.inl 0), .inl p0]) (wc := (kw_I m)) (w' := (kw_IT m t)) (r := (some (.inl (fn2_isVariable m p0)), (kw_I m), 0, 0)) ?_ ?_ ?_ ?_ ?_ ?_ ?_ ?_ ?_ ?_
  · exact ks_IT_I_0_o m t
  · rfl
  · rfl
  · exact ks_IT_I_0_s m t
  · exact ⟨m, p0, rfl, rfl, hp.1⟩
  · exact fe2_isVariable m p0
  · exact kwl_I m
  · rfl
  · exact ks_IT_I_0_m m t m
  refine am_if (c := (fn2_isVariable m p0) = 0) (fun h1 => ?_) (fun h1 => ?_)
  · have e : fn2_keep m t p0 = ((0 : Int32), m) := by
      rw [fq2_keep]
      rw [if_pos h1]
    rw [e] <;> rfl
  · have q1 := hp.2.2 h1
    refine am_ci (c := am_inb p0 8 = true) q1.1 ?_
    refine am_if (c := (4 : Int32) ≤ ((qg2_counts m) (p0).toNatClampNeg)) (fun h2 => ?_) (fun h2 => ?_)
    · have e : fn2_keep m t p0 = ((0 : Int32), m) := by
        rw [fq2_keep]
        rw [if_neg h1, if_pos h2]
      rw [e] <;> rfl
    · have q2 := q1.2.2 h2
      refine am_if (c := (qg6_length t) ≤ (40 : Int32)) (fun h3 => ?_) (fun h3 => ?_)
      · have q3 := q2.1 h3
        refine am_ci (c := am_inb p0 8 = true) q3.1 ?_
        have e : fn2_keep m t p0 = fn2_keep_c43 hg_fu m t p0 ((p0 * (4 : Int32)) + ((qg2_counts m) (p0).toNatClampNeg)) (0 : Int32) := by
          rw [fq2_keep]
          rw [if_neg h1, if_neg h2, if_pos h3]
        rw [e]
        exact i43 hg_fu m t p0 ((p0 * (4 : Int32)) + ((qg2_counts m) (p0).toNatClampNeg)) (0 : Int32)  q3.2
      · have e : fn2_keep m t p0 = ((0 : Int32), m) := by
          rw [fq2_keep]
          rw [if_neg h1, if_neg h2, if_neg h3]
        rw [e] <;> rfl
abbrev pr2_keep : List am_V → List am_C → Prop := fun a w => ∃ (m : qt2) (t : qt6) (p0 : Int32), a = [.inr (.inl 0), .inl p0, .inr (.inl 5)] ∧ w = (kw_IT m t) ∧ wp2_keep m t p0
noncomputable def fm2_keep : am_M := fun a w => (fun (z : Int32 × qt2) => (some (.inl (z.1)), (kw_IT (z.2) (qs6 w 5)), 0, 0)) (fn2_keep (qs2 w 0) (qs6 w 5) (am_i (am_an a 1)))
theorem fe2_keep (m : qt2) (t : qt6) (p0 : Int32) : fm2_keep [.inr (.inl 0), .inl p0, .inr (.inl 5)] (kw_IT m t) = (some (.inl ((fn2_keep m t p0).1)), (kw_IT ((fn2_keep m t p0).2) t), 0, 0) := rfl
set_option maxRecDepth 100000 in
set_option maxHeartbeats 4000000 in
theorem rn2_keep : ∀ (a : List am_V) (w : List am_C), pr2_keep a w → ∃ nq, am_ev (am_mk kb2_keep (fm2_keep a w).2.2.1 (fm2_keep a w).2.2.2 w.length) [43] nq (0, am_L0 a 5, [], w, 0, 0) = some ((fm2_keep a w).1, (fm2_keep a w).2.1) := by
  rintro a w ⟨m, t, p0, rfl, rfl, hp⟩
  rw [fe2_keep m t p0]
  exact am_lf_ev (re2_keep m t p0 hp)
theorem rl2_keep : ∀ (a : List am_V) (w : List am_C), pr2_keep a w → a.length ≤ 5 := by
  rintro a w ⟨m, t, p0, rfl, rfl, hp⟩
  exact Nat.le_of_ble_eq_true rfl
theorem pa2_keep : ∀ a w, pr2_keep a w → ∃ q a' ci fs r, a = .inr (.inl q) :: a' ∧ w[q]? = some (.inr (ci, fs)) ∧ hn_cl[ci]? = some r ∧ r.1 = hn_R2 := by
  rintro a w ⟨m, t, p0, rfl, rfl, hp⟩
  exact ⟨0, _, 2, _, _, rfl, rfl, rfl, rfl⟩
set_option maxRecDepth 100000 in
set_option maxHeartbeats 4000000 in
theorem km2_keep {l : Launch} {E : (Nat → Prop) → State → Prop} {D : va_G} {ou : Nat → Nat} {ca : Nat → ClassId} (hE : hg_E E ou) : hg_Met l E D ou ca hy2_keep prog_4_method_4_code 5 (some .boolean) 1 pr2_keep fm2_keep := by
  refine am_met (B := kb2_keep) (cuts := [43]) (nt := 5) (by decide +kernel) rfl rfl (hg_tys_ok ca) ?_ (by decide) rl2_keep ?_ rn2_keep
  · exact fun t ht => List.mem_cons_of_mem _ (hg_arr t ht)
  · intro a w hp ad p e R s m args below meth c hR X hEs hnm
    have hR1 : 1 ≤ R.frames ∧ 40 ≤ R.locals := by rw [hR]; exact ⟨Nat.le_refl _, Nat.le_refl _⟩
    have hN := hE.2.1 _ _ hEs
    refine ⟨kd2_keep_ok, fun index ci fi mode hq => kf2_ok X.2.2.2.2.1 hN.1 (index, ci, fi, mode) (am_as_mem hq), fun index ci fs hq => (am_no hq).elim, fun x v hq => (am_no hq).elim, ?_, fun o t n f hq => (am_no hq).elim, rfl, rfl, by rw [hR]; exact Nat.le_refl _, by rw [hR]; exact Nat.le_refl _⟩
    intro pc sel n0 pre0 f0 hq
    have hz : ∀ q ∈ ki2_keep, am_CK p l e R s m args below meth c D hn_cl (va_A (am_w ad ou ca w) s.heap.size) ou ca 5 q.1 q.2.2.1 q.2.2.2.1 q.2.2.2.2 := by
      refine am_allc (am_ck_V (n := 1) X hEs hE.1 (km2_isVariable hE) (hg_good (gw_mem 700 (by decide +kernel))) rfl (List.mem_cons_of_mem _ (gw_mem 71 (by decide +kernel))) (List.mem_cons_of_mem _ (gw_mem 721 (by decide +kernel))) (List.mem_cons_of_mem _ (gw_mem 698 (by decide +kernel))) (List.mem_cons_of_mem _ (gw_mem 699 (by decide +kernel))) pa2_isVariable (by decide +kernel) ⟨Nat.le_trans (by decide) hR1.1, Nat.le_trans (by decide) hR1.2⟩ (kd2_keep_ok (2, .invokevirtual 25, 3) (List.mem_of_getElem? (i := 2) rfl))) (am_allc (am_ck_V (n := 1) X hEs hE.1 (km6_at hE) (hg_good (gw_mem 318 (by decide +kernel))) rfl (List.mem_cons_of_mem _ (gw_mem 69 (by decide +kernel))) (List.mem_cons_of_mem _ (gw_mem 722 (by decide +kernel))) (List.mem_cons_of_mem _ (gw_mem 316 (by decide +kernel))) (List.mem_cons_of_mem _ (gw_mem 317 (by decide +kernel))) pa6_at (by decide +kernel) ⟨Nat.le_trans (by decide) hR1.1, Nat.le_trans (by decide) hR1.2⟩ (kd2_keep_ok (66, .invokevirtual 35, 3) (List.mem_of_getElem? (i := 40) rfl))) (am_all0))
    exact hz _ (am_as_mem hq)
noncomputable def ki2_drop : List (Nat × Option (List Nat) × Nat × (List am_V → List am_C → Prop) × am_M) := [(2, none, 2, pr2_count, fm2_count), (8, none, 2, pr2_isVariable, fm2_isVariable)]
noncomputable def kb2_drop : am_B := (kd2_drop, am_as kf2, hn_ty, fun _ => none, fun _ => none, am_as ki2_drop, fun _ => none, 5, 3, (some .int))
noncomputable def fn2_drop (m : qt2) (p0 : Int32) : Int32 × qt2 := Classical.choose (⟨_, rfl⟩ : ∃ z : Int32 × qt2, z = (if (fn2_isVariable m p0) = 0 then ((fn2_count m p0), m) else ((fn2_count m p0), (qa2_counts m ((p0).toNatClampNeg) (0 : Int32)))))
theorem fq2_drop (m : qt2) (p0 : Int32) : fn2_drop m p0 = (if (fn2_isVariable m p0) = 0 then ((fn2_count m p0), m) else ((fn2_count m p0), (qa2_counts m ((p0).toNatClampNeg) (0 : Int32)))) := Classical.choose_spec (⟨_, rfl⟩ : ∃ z : Int32 × qt2, z = (if (fn2_isVariable m p0) = 0 then ((fn2_count m p0), m) else ((fn2_count m p0), (qa2_counts m ((p0).toNatClampNeg) (0 : Int32)))))
def wp2_drop (m : qt2) (p0 : Int32) : Prop := ((wp2_count m p0) ∧ ((wp2_isVariable m p0) ∧ (((fn2_isVariable m p0) = 0 → True) ∧ (¬ (fn2_isVariable m p0) = 0 → (am_inb p0 8 = true)))))
set_option maxRecDepth 100000 in
set_option maxHeartbeats 4000000 in
theorem re2_drop (m : qt2) (p0 : Int32) (hp : wp2_drop m p0) : am_lf (am_mk kb2_drop 0 0 5) [] (0, am_L0 [.inr (.inl 0), .inl p0] 3, [], (kw_I m), 0, 0) = some (some (.inl ((fn2_drop m p0).1)), (kw_I ((fn2_drop m p0).2))) := by
  unfold wp2_drop at hp
  refine am_lf_eq ?_
  generalize am_lf (am_mk kb2_drop 0 0 5) [] = kt
  refine am_cx (pre := pr2_count) (f := fm2_count) (r := (some (.inl (fn2_count m p0)), (kw_I m), 0, 0)) ?_ ?_ ?_ ?_
  · exact ⟨m, p0, rfl, rfl, hp.1⟩
  · exact fe2_count m p0
  · exact rfl
  refine am_cx (pre := pr2_isVariable) (f := fm2_isVariable) (r := (some (.inl (fn2_isVariable m p0)), (kw_I m), 0, 0)) ?_ ?_ ?_ ?_
  · exact ⟨m, p0, rfl, rfl, hp.2.1⟩
  · exact fe2_isVariable m p0
  · exact rfl
  refine am_if (c := (fn2_isVariable m p0) = 0) (fun h1 => ?_) (fun h1 => ?_)
  · have e : fn2_drop m p0 = ((fn2_count m p0), m) := by
      rw [fq2_drop]
      rw [if_pos h1]
    rw [e] <;> rfl
  · have q1 := hp.2.2.2 h1
    refine am_ci (c := am_inb p0 8 = true) q1 ?_
    refine am_sp (w' := (kw_I (qa2_counts m ((p0).toNatClampNeg) (0 : Int32)))) (kp_I_0_counts m ((p0).toNatClampNeg) (0 : Int32)) ?_
    have e : fn2_drop m p0 = ((fn2_count m p0), (qa2_counts m ((p0).toNatClampNeg) (0 : Int32))) := by
      rw [fq2_drop]
      rw [if_neg h1]
    rw [e] <;> rfl
abbrev pr2_drop : List am_V → List am_C → Prop := fun a w => ∃ (m : qt2) (p0 : Int32), a = [.inr (.inl 0), .inl p0] ∧ w = (kw_I m) ∧ wp2_drop m p0
noncomputable def fm2_drop : am_M := fun a w => (fun (z : Int32 × qt2) => (some (.inl (z.1)), (kw_I (z.2)), 0, 0)) (fn2_drop (qs2 w 0) (am_i (am_an a 1)))
theorem fe2_drop (m : qt2) (p0 : Int32) : fm2_drop [.inr (.inl 0), .inl p0] (kw_I m) = (some (.inl ((fn2_drop m p0).1)), (kw_I ((fn2_drop m p0).2)), 0, 0) := rfl
set_option maxRecDepth 100000 in
set_option maxHeartbeats 4000000 in
theorem rn2_drop : ∀ (a : List am_V) (w : List am_C), pr2_drop a w → ∃ nq, am_ev (am_mk kb2_drop (fm2_drop a w).2.2.1 (fm2_drop a w).2.2.2 w.length) [] nq (0, am_L0 a 3, [], w, 0, 0) = some ((fm2_drop a w).1, (fm2_drop a w).2.1) := by
  rintro a w ⟨m, p0, rfl, rfl, hp⟩
  rw [fe2_drop m p0]
  exact am_lf_ev (re2_drop m p0 hp)
theorem rl2_drop : ∀ (a : List am_V) (w : List am_C), pr2_drop a w → a.length ≤ 3 := by
  rintro a w ⟨m, p0, rfl, rfl, hp⟩
  exact Nat.le_of_ble_eq_true rfl
theorem pa2_drop : ∀ a w, pr2_drop a w → ∃ q a' ci fs r, a = .inr (.inl q) :: a' ∧ w[q]? = some (.inr (ci, fs)) ∧ hn_cl[ci]? = some r ∧ r.1 = hn_R2 := by
  rintro a w ⟨m, p0, rfl, rfl, hp⟩
  exact ⟨0, _, 2, _, _, rfl, rfl, rfl, rfl⟩
set_option maxRecDepth 100000 in
set_option maxHeartbeats 4000000 in
theorem km2_drop {l : Launch} {E : (Nat → Prop) → State → Prop} {D : va_G} {ou : Nat → Nat} {ca : Nat → ClassId} (hE : hg_E E ou) : hg_Met l E D ou ca hy2_drop prog_4_method_5_code 3 (some .int) 2 pr2_drop fm2_drop := by
  refine am_met (B := kb2_drop) (cuts := []) (nt := 5) (by decide +kernel) rfl rfl (hg_tys_ok ca) ?_ (by decide) rl2_drop ?_ rn2_drop
  · exact fun t ht => List.mem_cons_of_mem _ (hg_arr t ht)
  · intro a w hp ad p e R s m args below meth c hR X hEs hnm
    have hR1 : 2 ≤ R.frames ∧ 80 ≤ R.locals := by rw [hR]; exact ⟨Nat.le_refl _, Nat.le_refl _⟩
    have hN := hE.2.1 _ _ hEs
    refine ⟨kd2_drop_ok, fun index ci fi mode hq => kf2_ok X.2.2.2.2.1 hN.1 (index, ci, fi, mode) (am_as_mem hq), fun index ci fs hq => (am_no hq).elim, fun x v hq => (am_no hq).elim, ?_, fun o t n f hq => (am_no hq).elim, rfl, rfl, by rw [hR]; exact Nat.le_refl _, by rw [hR]; exact Nat.le_refl _⟩
    intro pc sel n0 pre0 f0 hq
    have hz : ∀ q ∈ ki2_drop, am_CK p l e R s m args below meth c D hn_cl (va_A (am_w ad ou ca w) s.heap.size) ou ca 3 q.1 q.2.2.1 q.2.2.2.1 q.2.2.2.2 := by
      refine am_allc (am_ck_V (n := 1) X hEs hE.1 (km2_count hE) (hg_good (gw_mem 727 (by decide +kernel))) rfl (List.mem_cons_of_mem _ (gw_mem 71 (by decide +kernel))) (List.mem_cons_of_mem _ (gw_mem 739 (by decide +kernel))) (List.mem_cons_of_mem _ (gw_mem 725 (by decide +kernel))) (List.mem_cons_of_mem _ (gw_mem 726 (by decide +kernel))) pa2_count (by decide +kernel) ⟨Nat.le_trans (by decide) hR1.1, Nat.le_trans (by decide) hR1.2⟩ (kd2_drop_ok (2, .invokevirtual 39, 3) (List.mem_of_getElem? (i := 2) rfl))) (am_allc (am_ck_V (n := 1) X hEs hE.1 (km2_isVariable hE) (hg_good (gw_mem 700 (by decide +kernel))) rfl (List.mem_cons_of_mem _ (gw_mem 71 (by decide +kernel))) (List.mem_cons_of_mem _ (gw_mem 721 (by decide +kernel))) (List.mem_cons_of_mem _ (gw_mem 698 (by decide +kernel))) (List.mem_cons_of_mem _ (gw_mem 699 (by decide +kernel))) pa2_isVariable (by decide +kernel) ⟨Nat.le_trans (by decide) hR1.1, Nat.le_trans (by decide) hR1.2⟩ (kd2_drop_ok (8, .invokevirtual 25, 3) (List.mem_of_getElem? (i := 6) rfl))) (am_all0))
    exact hz _ (am_as_mem hq)
noncomputable def ki2_lone : List (Nat × Option (List Nat) × Nat × (List am_V → List am_C → Prop) × am_M) := [(2, none, 2, pr2_isVariable, fm2_isVariable)]
noncomputable def kb2_lone : am_B := (kd2_lone, am_as kf2, hn_ty, fun _ => none, fun _ => none, am_as ki2_lone, fun _ => none, 5, 2, (some .int))
noncomputable def fn2_lone (m : qt2) (p0 : Int32) : Int32 := Classical.choose (⟨_, rfl⟩ : ∃ z : Int32, z = (if (fn2_isVariable m p0) = 0 then (-1 : Int32) else ((qg2_alone m) (p0).toNatClampNeg)))
theorem fq2_lone (m : qt2) (p0 : Int32) : fn2_lone m p0 = (if (fn2_isVariable m p0) = 0 then (-1 : Int32) else ((qg2_alone m) (p0).toNatClampNeg)) := Classical.choose_spec (⟨_, rfl⟩ : ∃ z : Int32, z = (if (fn2_isVariable m p0) = 0 then (-1 : Int32) else ((qg2_alone m) (p0).toNatClampNeg)))
def wp2_lone (m : qt2) (p0 : Int32) : Prop := ((wp2_isVariable m p0) ∧ (((fn2_isVariable m p0) = 0 → True) ∧ (¬ (fn2_isVariable m p0) = 0 → (am_inb p0 8 = true))))
set_option maxRecDepth 100000 in
set_option maxHeartbeats 4000000 in
theorem re2_lone (m : qt2) (p0 : Int32) (hp : wp2_lone m p0) : am_lf (am_mk kb2_lone 0 0 5) [] (0, am_L0 [.inr (.inl 0), .inl p0] 2, [], (kw_I m), 0, 0) = some (some (.inl (fn2_lone m p0)), (kw_I m)) := by
  unfold wp2_lone at hp
  refine am_lf_eq ?_
  generalize am_lf (am_mk kb2_lone 0 0 5) [] = kt
  refine am_cx (pre := pr2_isVariable) (f := fm2_isVariable) (r := (some (.inl (fn2_isVariable m p0)), (kw_I m), 0, 0)) ?_ ?_ ?_ ?_
  · exact ⟨m, p0, rfl, rfl, hp.1⟩
  · exact fe2_isVariable m p0
  · exact rfl
  refine am_if (c := (fn2_isVariable m p0) = 0) (fun h1 => ?_) (fun h1 => ?_)
  · have e : fn2_lone m p0 = (-1 : Int32) := by
      rw [fq2_lone]
      rw [if_pos h1]
    rw [e] <;> rfl
  · have q1 := hp.2.2 h1
    refine am_ci (c := am_inb p0 8 = true) q1 ?_
    have e : fn2_lone m p0 = ((qg2_alone m) (p0).toNatClampNeg) := by
      rw [fq2_lone]
      rw [if_neg h1]
    rw [e] <;> rfl
abbrev pr2_lone : List am_V → List am_C → Prop := fun a w => ∃ (m : qt2) (p0 : Int32), a = [.inr (.inl 0), .inl p0] ∧ w = (kw_I m) ∧ wp2_lone m p0
noncomputable def fm2_lone : am_M := fun a w => (fun (z : Int32) => (some (.inl z), (kw_I (qs2 w 0)), 0, 0)) (fn2_lone (qs2 w 0) (am_i (am_an a 1)))
theorem fe2_lone (m : qt2) (p0 : Int32) : fm2_lone [.inr (.inl 0), .inl p0] (kw_I m) = (some (.inl (fn2_lone m p0)), (kw_I m), 0, 0) := rfl
set_option maxRecDepth 100000 in
set_option maxHeartbeats 4000000 in
theorem rn2_lone : ∀ (a : List am_V) (w : List am_C), pr2_lone a w → ∃ nq, am_ev (am_mk kb2_lone (fm2_lone a w).2.2.1 (fm2_lone a w).2.2.2 w.length) [] nq (0, am_L0 a 2, [], w, 0, 0) = some ((fm2_lone a w).1, (fm2_lone a w).2.1) := by
  rintro a w ⟨m, p0, rfl, rfl, hp⟩
  rw [fe2_lone m p0]
  exact am_lf_ev (re2_lone m p0 hp)
theorem rl2_lone : ∀ (a : List am_V) (w : List am_C), pr2_lone a w → a.length ≤ 2 := by
  rintro a w ⟨m, p0, rfl, rfl, hp⟩
  exact Nat.le_of_ble_eq_true rfl
theorem pa2_lone : ∀ a w, pr2_lone a w → ∃ q a' ci fs r, a = .inr (.inl q) :: a' ∧ w[q]? = some (.inr (ci, fs)) ∧ hn_cl[ci]? = some r ∧ r.1 = hn_R2 := by
  rintro a w ⟨m, p0, rfl, rfl, hp⟩
  exact ⟨0, _, 2, _, _, rfl, rfl, rfl, rfl⟩
set_option maxRecDepth 100000 in
set_option maxHeartbeats 4000000 in
theorem km2_lone {l : Launch} {E : (Nat → Prop) → State → Prop} {D : va_G} {ou : Nat → Nat} {ca : Nat → ClassId} (hE : hg_E E ou) : hg_Met l E D ou ca hy2_lone prog_4_method_6_code 2 (some .int) 1 pr2_lone fm2_lone := by
  refine am_met (B := kb2_lone) (cuts := []) (nt := 5) (by decide +kernel) rfl rfl (hg_tys_ok ca) ?_ (by decide) rl2_lone ?_ rn2_lone
  · exact fun t ht => List.mem_cons_of_mem _ (hg_arr t ht)
  · intro a w hp ad p e R s m args below meth c hR X hEs hnm
    have hR1 : 1 ≤ R.frames ∧ 40 ≤ R.locals := by rw [hR]; exact ⟨Nat.le_refl _, Nat.le_refl _⟩
    have hN := hE.2.1 _ _ hEs
    refine ⟨kd2_lone_ok, fun index ci fi mode hq => kf2_ok X.2.2.2.2.1 hN.1 (index, ci, fi, mode) (am_as_mem hq), fun index ci fs hq => (am_no hq).elim, fun x v hq => (am_no hq).elim, ?_, fun o t n f hq => (am_no hq).elim, rfl, rfl, by rw [hR]; exact Nat.le_refl _, by rw [hR]; exact Nat.le_refl _⟩
    intro pc sel n0 pre0 f0 hq
    have hz : ∀ q ∈ ki2_lone, am_CK p l e R s m args below meth c D hn_cl (va_A (am_w ad ou ca w) s.heap.size) ou ca 2 q.1 q.2.2.1 q.2.2.2.1 q.2.2.2.2 := by
      refine am_allc (am_ck_V (n := 1) X hEs hE.1 (km2_isVariable hE) (hg_good (gw_mem 700 (by decide +kernel))) rfl (List.mem_cons_of_mem _ (gw_mem 71 (by decide +kernel))) (List.mem_cons_of_mem _ (gw_mem 721 (by decide +kernel))) (List.mem_cons_of_mem _ (gw_mem 698 (by decide +kernel))) (List.mem_cons_of_mem _ (gw_mem 699 (by decide +kernel))) pa2_isVariable (by decide +kernel) ⟨Nat.le_trans (by decide) hR1.1, Nat.le_trans (by decide) hR1.2⟩ (kd2_lone_ok (2, .invokevirtual 25, 3) (List.mem_of_getElem? (i := 2) rfl))) (am_all0)
    exact hz _ (am_as_mem hq)
noncomputable def ki2_leaveAlone : List (Nat × Option (List Nat) × Nat × (List am_V → List am_C → Prop) × am_M) := [(2, none, 2, pr2_isVariable, fm2_isVariable)]
noncomputable def kb2_leaveAlone : am_B := (kd2_leaveAlone, am_as kf2, hn_ty, fun _ => none, fun _ => none, am_as ki2_leaveAlone, fun _ => none, 5, 3, none)
noncomputable def fn2_leaveAlone (m : qt2) (p0 : Int32) (p1 : Int32) : qt2 := Classical.choose (⟨_, rfl⟩ : ∃ z : qt2, z = (if (fn2_isVariable m p0) = 0 then m else (qa2_alone m ((p0).toNatClampNeg) p1)))
theorem fq2_leaveAlone (m : qt2) (p0 : Int32) (p1 : Int32) : fn2_leaveAlone m p0 p1 = (if (fn2_isVariable m p0) = 0 then m else (qa2_alone m ((p0).toNatClampNeg) p1)) := Classical.choose_spec (⟨_, rfl⟩ : ∃ z : qt2, z = (if (fn2_isVariable m p0) = 0 then m else (qa2_alone m ((p0).toNatClampNeg) p1)))
def wp2_leaveAlone (m : qt2) (p0 : Int32) (p1 : Int32) : Prop := ((wp2_isVariable m p0) ∧ (((fn2_isVariable m p0) = 0 → True) ∧ (¬ (fn2_isVariable m p0) = 0 → (am_inb p0 8 = true))))
set_option maxRecDepth 100000 in
set_option maxHeartbeats 4000000 in
theorem re2_leaveAlone (m : qt2) (p0 : Int32) (p1 : Int32) (hp : wp2_leaveAlone m p0 p1) : am_lf (am_mk kb2_leaveAlone 0 0 5) [] (0, am_L0 [.inr (.inl 0), .inl p0, .inl p1] 3, [], (kw_I m), 0, 0) = some (none, (kw_I (fn2_leaveAlone m p0 p1))) := by
  unfold wp2_leaveAlone at hp
  refine am_lf_eq ?_
  generalize am_lf (am_mk kb2_leaveAlone 0 0 5) [] = kt
  refine am_cx (pre := pr2_isVariable) (f := fm2_isVariable) (r := (some (.inl (fn2_isVariable m p0)), (kw_I m), 0, 0)) ?_ ?_ ?_ ?_
  · exact ⟨m, p0, rfl, rfl, hp.1⟩
  · exact fe2_isVariable m p0
  · exact rfl
  refine am_if (c := (fn2_isVariable m p0) = 0) (fun h1 => ?_) (fun h1 => ?_)
  · have e : fn2_leaveAlone m p0 p1 = m := by
      rw [fq2_leaveAlone]
      rw [if_pos h1]
    rw [e] <;> rfl
  · have q1 := hp.2.2 h1
    refine am_ci (c := am_inb p0 8 = true) q1 ?_
    refine am_sp (w' := (kw_I (qa2_alone m ((p0).toNatClampNeg) p1))) (kp_I_0_alone m ((p0).toNatClampNeg) p1) ?_
    have e : fn2_leaveAlone m p0 p1 = (qa2_alone m ((p0).toNatClampNeg) p1) := by
      rw [fq2_leaveAlone]
      rw [if_neg h1]
    rw [e] <;> rfl
abbrev pr2_leaveAlone : List am_V → List am_C → Prop := fun a w => ∃ (m : qt2) (p0 : Int32) (p1 : Int32), a = [.inr (.inl 0), .inl p0, .inl p1] ∧ w = (kw_I m) ∧ wp2_leaveAlone m p0 p1
noncomputable def fm2_leaveAlone : am_M := fun a w => (fun (z : qt2) => (none, (kw_I z), 0, 0)) (fn2_leaveAlone (qs2 w 0) (am_i (am_an a 1)) (am_i (am_an a 2)))
theorem fe2_leaveAlone (m : qt2) (p0 : Int32) (p1 : Int32) : fm2_leaveAlone [.inr (.inl 0), .inl p0, .inl p1] (kw_I m) = (none, (kw_I (fn2_leaveAlone m p0 p1)), 0, 0) := rfl
set_option maxRecDepth 100000 in
set_option maxHeartbeats 4000000 in
theorem rn2_leaveAlone : ∀ (a : List am_V) (w : List am_C), pr2_leaveAlone a w → ∃ nq, am_ev (am_mk kb2_leaveAlone (fm2_leaveAlone a w).2.2.1 (fm2_leaveAlone a w).2.2.2 w.length) [] nq (0, am_L0 a 3, [], w, 0, 0) = some ((fm2_leaveAlone a w).1, (fm2_leaveAlone a w).2.1) := by
  rintro a w ⟨m, p0, p1, rfl, rfl, hp⟩
  rw [fe2_leaveAlone m p0 p1]
  exact am_lf_ev (re2_leaveAlone m p0 p1 hp)
theorem rl2_leaveAlone : ∀ (a : List am_V) (w : List am_C), pr2_leaveAlone a w → a.length ≤ 3 := by
  rintro a w ⟨m, p0, p1, rfl, rfl, hp⟩
  exact Nat.le_of_ble_eq_true rfl
theorem pa2_leaveAlone : ∀ a w, pr2_leaveAlone a w → ∃ q a' ci fs r, a = .inr (.inl q) :: a' ∧ w[q]? = some (.inr (ci, fs)) ∧ hn_cl[ci]? = some r ∧ r.1 = hn_R2 := by
  rintro a w ⟨m, p0, p1, rfl, rfl, hp⟩
  exact ⟨0, _, 2, _, _, rfl, rfl, rfl, rfl⟩
set_option maxRecDepth 100000 in
set_option maxHeartbeats 4000000 in
theorem km2_leaveAlone {l : Launch} {E : (Nat → Prop) → State → Prop} {D : va_G} {ou : Nat → Nat} {ca : Nat → ClassId} (hE : hg_E E ou) : hg_Met l E D ou ca hy2_leaveAlone prog_4_method_7_code 3 none 1 pr2_leaveAlone fm2_leaveAlone := by
  refine am_met (B := kb2_leaveAlone) (cuts := []) (nt := 5) (by decide +kernel) rfl rfl (hg_tys_ok ca) ?_ (by decide) rl2_leaveAlone ?_ rn2_leaveAlone
  · exact fun t ht => List.mem_cons_of_mem _ (hg_arr t ht)
  · intro a w hp ad p e R s m args below meth c hR X hEs hnm
    have hR1 : 1 ≤ R.frames ∧ 40 ≤ R.locals := by rw [hR]; exact ⟨Nat.le_refl _, Nat.le_refl _⟩
    have hN := hE.2.1 _ _ hEs
    refine ⟨kd2_leaveAlone_ok, fun index ci fi mode hq => kf2_ok X.2.2.2.2.1 hN.1 (index, ci, fi, mode) (am_as_mem hq), fun index ci fs hq => (am_no hq).elim, fun x v hq => (am_no hq).elim, ?_, fun o t n f hq => (am_no hq).elim, rfl, rfl, by rw [hR]; exact Nat.le_refl _, by rw [hR]; exact Nat.le_refl _⟩
    intro pc sel n0 pre0 f0 hq
    have hz : ∀ q ∈ ki2_leaveAlone, am_CK p l e R s m args below meth c D hn_cl (va_A (am_w ad ou ca w) s.heap.size) ou ca 3 q.1 q.2.2.1 q.2.2.2.1 q.2.2.2.2 := by
      refine am_allc (am_ck_V (n := 1) X hEs hE.1 (km2_isVariable hE) (hg_good (gw_mem 700 (by decide +kernel))) rfl (List.mem_cons_of_mem _ (gw_mem 71 (by decide +kernel))) (List.mem_cons_of_mem _ (gw_mem 721 (by decide +kernel))) (List.mem_cons_of_mem _ (gw_mem 698 (by decide +kernel))) (List.mem_cons_of_mem _ (gw_mem 699 (by decide +kernel))) pa2_isVariable (by decide +kernel) ⟨Nat.le_trans (by decide) hR1.1, Nat.le_trans (by decide) hR1.2⟩ (kd2_leaveAlone_ok (2, .invokevirtual 25, 3) (List.mem_of_getElem? (i := 2) rfl))) (am_all0)
    exact hz _ (am_as_mem hq)
noncomputable def ki2_from : List (Nat × Option (List Nat) × Nat × (List am_V → List am_C → Prop) × am_M) := [(2, none, 2, pr2_isVariable, fm2_isVariable)]
noncomputable def kb2_from : am_B := (kd2_from, am_as kf2, hn_ty, fun _ => none, fun _ => none, am_as ki2_from, fun _ => none, 5, 2, (some .int))
noncomputable def fn2_from (m : qt2) (p0 : Int32) : Int32 := Classical.choose (⟨_, rfl⟩ : ∃ z : Int32, z = (if (fn2_isVariable m p0) = 0 then (0 : Int32) else (if ((qg2_alone m) (p0).toNatClampNeg) = (-1 : Int32) then (p0 * (4 : Int32)) else ((qg2_alone m) (p0).toNatClampNeg))))
theorem fq2_from (m : qt2) (p0 : Int32) : fn2_from m p0 = (if (fn2_isVariable m p0) = 0 then (0 : Int32) else (if ((qg2_alone m) (p0).toNatClampNeg) = (-1 : Int32) then (p0 * (4 : Int32)) else ((qg2_alone m) (p0).toNatClampNeg))) := Classical.choose_spec (⟨_, rfl⟩ : ∃ z : Int32, z = (if (fn2_isVariable m p0) = 0 then (0 : Int32) else (if ((qg2_alone m) (p0).toNatClampNeg) = (-1 : Int32) then (p0 * (4 : Int32)) else ((qg2_alone m) (p0).toNatClampNeg))))
def wp2_from (m : qt2) (p0 : Int32) : Prop := ((wp2_isVariable m p0) ∧ (((fn2_isVariable m p0) = 0 → True) ∧ (¬ (fn2_isVariable m p0) = 0 → (am_inb p0 8 = true ∧ ((((qg2_alone m) (p0).toNatClampNeg) = (-1 : Int32) → True) ∧ (¬ ((qg2_alone m) (p0).toNatClampNeg) = (-1 : Int32) → (am_inb p0 8 = true)))))))
set_option maxRecDepth 100000 in
set_option maxHeartbeats 4000000 in
theorem re2_from (m : qt2) (p0 : Int32) (hp : wp2_from m p0) : am_lf (am_mk kb2_from 0 0 5) [] (0, am_L0 [.inr (.inl 0), .inl p0] 2, [], (kw_I m), 0, 0) = some (some (.inl (fn2_from m p0)), (kw_I m)) := by
  unfold wp2_from at hp
  refine am_lf_eq ?_
  generalize am_lf (am_mk kb2_from 0 0 5) [] = kt
  refine am_cx (pre := pr2_isVariable) (f := fm2_isVariable) (r := (some (.inl (fn2_isVariable m p0)), (kw_I m), 0, 0)) ?_ ?_ ?_ ?_
  · exact ⟨m, p0, rfl, rfl, hp.1⟩
  · exact fe2_isVariable m p0
  · exact rfl
  refine am_if (c := (fn2_isVariable m p0) = 0) (fun h1 => ?_) (fun h1 => ?_)
  · have e : fn2_from m p0 = (0 : Int32) := by
      rw [fq2_from]
      rw [if_pos h1]
    rw [e] <;> rfl
  · have q1 := hp.2.2 h1
    refine am_ci (c := am_inb p0 8 = true) q1.1 ?_
    refine am_if (c := ((qg2_alone m) (p0).toNatClampNeg) = (-1 : Int32)) (fun h2 => ?_) (fun h2 => ?_)
    · have e : fn2_from m p0 = (p0 * (4 : Int32)) := by
        rw [fq2_from]
        rw [if_neg h1, if_pos h2]
      rw [e] <;> rfl
    · have q2 := q1.2.2 h2
      refine am_ci (c := am_inb p0 8 = true) q2 ?_
      have e : fn2_from m p0 = ((qg2_alone m) (p0).toNatClampNeg) := by
        rw [fq2_from]
        rw [if_neg h1, if_neg h2]
      rw [e] <;> rfl
abbrev pr2_from : List am_V → List am_C → Prop := fun a w => ∃ (m : qt2) (p0 : Int32), a = [.inr (.inl 0), .inl p0] ∧ w = (kw_I m) ∧ wp2_from m p0
noncomputable def fm2_from : am_M := fun a w => (fun (z : Int32) => (some (.inl z), (kw_I (qs2 w 0)), 0, 0)) (fn2_from (qs2 w 0) (am_i (am_an a 1)))
theorem fe2_from (m : qt2) (p0 : Int32) : fm2_from [.inr (.inl 0), .inl p0] (kw_I m) = (some (.inl (fn2_from m p0)), (kw_I m), 0, 0) := rfl
set_option maxRecDepth 100000 in
set_option maxHeartbeats 4000000 in
theorem rn2_from : ∀ (a : List am_V) (w : List am_C), pr2_from a w → ∃ nq, am_ev (am_mk kb2_from (fm2_from a w).2.2.1 (fm2_from a w).2.2.2 w.length) [] nq (0, am_L0 a 2, [], w, 0, 0) = some ((fm2_from a w).1, (fm2_from a w).2.1) := by
  rintro a w ⟨m, p0, rfl, rfl, hp⟩
  rw [fe2_from m p0]
  exact am_lf_ev (re2_from m p0 hp)
theorem rl2_from : ∀ (a : List am_V) (w : List am_C), pr2_from a w → a.length ≤ 2 := by
  rintro a w ⟨m, p0, rfl, rfl, hp⟩
  exact Nat.le_of_ble_eq_true rfl
theorem pa2_from : ∀ a w, pr2_from a w → ∃ q a' ci fs r, a = .inr (.inl q) :: a' ∧ w[q]? = some (.inr (ci, fs)) ∧ hn_cl[ci]? = some r ∧ r.1 = hn_R2 := by
  rintro a w ⟨m, p0, rfl, rfl, hp⟩
  exact ⟨0, _, 2, _, _, rfl, rfl, rfl, rfl⟩
set_option maxRecDepth 100000 in
set_option maxHeartbeats 4000000 in
theorem km2_from {l : Launch} {E : (Nat → Prop) → State → Prop} {D : va_G} {ou : Nat → Nat} {ca : Nat → ClassId} (hE : hg_E E ou) : hg_Met l E D ou ca hy2_from prog_4_method_8_code 2 (some .int) 1 pr2_from fm2_from := by
  refine am_met (B := kb2_from) (cuts := []) (nt := 5) (by decide +kernel) rfl rfl (hg_tys_ok ca) ?_ (by decide) rl2_from ?_ rn2_from
  · exact fun t ht => List.mem_cons_of_mem _ (hg_arr t ht)
  · intro a w hp ad p e R s m args below meth c hR X hEs hnm
    have hR1 : 1 ≤ R.frames ∧ 40 ≤ R.locals := by rw [hR]; exact ⟨Nat.le_refl _, Nat.le_refl _⟩
    have hN := hE.2.1 _ _ hEs
    refine ⟨kd2_from_ok, fun index ci fi mode hq => kf2_ok X.2.2.2.2.1 hN.1 (index, ci, fi, mode) (am_as_mem hq), fun index ci fs hq => (am_no hq).elim, fun x v hq => (am_no hq).elim, ?_, fun o t n f hq => (am_no hq).elim, rfl, rfl, by rw [hR]; exact Nat.le_refl _, by rw [hR]; exact Nat.le_refl _⟩
    intro pc sel n0 pre0 f0 hq
    have hz : ∀ q ∈ ki2_from, am_CK p l e R s m args below meth c D hn_cl (va_A (am_w ad ou ca w) s.heap.size) ou ca 2 q.1 q.2.2.1 q.2.2.2.1 q.2.2.2.2 := by
      refine am_allc (am_ck_V (n := 1) X hEs hE.1 (km2_isVariable hE) (hg_good (gw_mem 700 (by decide +kernel))) rfl (List.mem_cons_of_mem _ (gw_mem 71 (by decide +kernel))) (List.mem_cons_of_mem _ (gw_mem 721 (by decide +kernel))) (List.mem_cons_of_mem _ (gw_mem 698 (by decide +kernel))) (List.mem_cons_of_mem _ (gw_mem 699 (by decide +kernel))) pa2_isVariable (by decide +kernel) ⟨Nat.le_trans (by decide) hR1.1, Nat.le_trans (by decide) hR1.2⟩ (kd2_from_ok (2, .invokevirtual 25, 3) (List.mem_of_getElem? (i := 2) rfl))) (am_all0)
    exact hz _ (am_as_mem hq)
noncomputable def ki2_upTo : List (Nat × Option (List Nat) × Nat × (List am_V → List am_C → Prop) × am_M) := [(2, none, 2, pr2_isVariable, fm2_isVariable)]
noncomputable def kb2_upTo : am_B := (kd2_upTo, am_as kf2, hn_ty, fun _ => none, fun _ => none, am_as ki2_upTo, fun _ => none, 5, 2, (some .int))
noncomputable def fn2_upTo (m : qt2) (p0 : Int32) : Int32 := Classical.choose (⟨_, rfl⟩ : ∃ z : Int32, z = (if (fn2_isVariable m p0) = 0 then (0 : Int32) else (if ((qg2_alone m) (p0).toNatClampNeg) = (-1 : Int32) then ((p0 * (4 : Int32)) + ((qg2_counts m) (p0).toNatClampNeg)) else (((qg2_alone m) (p0).toNatClampNeg) + (1 : Int32)))))
theorem fq2_upTo (m : qt2) (p0 : Int32) : fn2_upTo m p0 = (if (fn2_isVariable m p0) = 0 then (0 : Int32) else (if ((qg2_alone m) (p0).toNatClampNeg) = (-1 : Int32) then ((p0 * (4 : Int32)) + ((qg2_counts m) (p0).toNatClampNeg)) else (((qg2_alone m) (p0).toNatClampNeg) + (1 : Int32)))) := Classical.choose_spec (⟨_, rfl⟩ : ∃ z : Int32, z = (if (fn2_isVariable m p0) = 0 then (0 : Int32) else (if ((qg2_alone m) (p0).toNatClampNeg) = (-1 : Int32) then ((p0 * (4 : Int32)) + ((qg2_counts m) (p0).toNatClampNeg)) else (((qg2_alone m) (p0).toNatClampNeg) + (1 : Int32)))))
def wp2_upTo (m : qt2) (p0 : Int32) : Prop := ((wp2_isVariable m p0) ∧ (((fn2_isVariable m p0) = 0 → True) ∧ (¬ (fn2_isVariable m p0) = 0 → (am_inb p0 8 = true ∧ ((((qg2_alone m) (p0).toNatClampNeg) = (-1 : Int32) → (am_inb p0 8 = true)) ∧ (¬ ((qg2_alone m) (p0).toNatClampNeg) = (-1 : Int32) → (am_inb p0 8 = true)))))))
set_option maxRecDepth 100000 in
set_option maxHeartbeats 4000000 in
theorem re2_upTo (m : qt2) (p0 : Int32) (hp : wp2_upTo m p0) : am_lf (am_mk kb2_upTo 0 0 5) [] (0, am_L0 [.inr (.inl 0), .inl p0] 2, [], (kw_I m), 0, 0) = some (some (.inl (fn2_upTo m p0)), (kw_I m)) := by
  unfold wp2_upTo at hp
  refine am_lf_eq ?_
  generalize am_lf (am_mk kb2_upTo 0 0 5) [] = kt
  refine am_cx (pre := pr2_isVariable) (f := fm2_isVariable) (r := (some (.inl (fn2_isVariable m p0)), (kw_I m), 0, 0)) ?_ ?_ ?_ ?_
  · exact ⟨m, p0, rfl, rfl, hp.1⟩
  · exact fe2_isVariable m p0
  · exact rfl
  refine am_if (c := (fn2_isVariable m p0) = 0) (fun h1 => ?_) (fun h1 => ?_)
  · have e : fn2_upTo m p0 = (0 : Int32) := by
      rw [fq2_upTo]
      rw [if_pos h1]
    rw [e] <;> rfl
  · have q1 := hp.2.2 h1
    refine am_ci (c := am_inb p0 8 = true) q1.1 ?_
    refine am_if (c := ((qg2_alone m) (p0).toNatClampNeg) = (-1 : Int32)) (fun h2 => ?_) (fun h2 => ?_)
    · have q2 := q1.2.1 h2
      refine am_ci (c := am_inb p0 8 = true) q2 ?_
      have e : fn2_upTo m p0 = ((p0 * (4 : Int32)) + ((qg2_counts m) (p0).toNatClampNeg)) := by
        rw [fq2_upTo]
        rw [if_neg h1, if_pos h2]
      rw [e] <;> rfl
    · have q2 := q1.2.2 h2
      refine am_ci (c := am_inb p0 8 = true) q2 ?_
      have e : fn2_upTo m p0 = (((qg2_alone m) (p0).toNatClampNeg) + (1 : Int32)) := by
        rw [fq2_upTo]
        rw [if_neg h1, if_neg h2]
      rw [e] <;> rfl
abbrev pr2_upTo : List am_V → List am_C → Prop := fun a w => ∃ (m : qt2) (p0 : Int32), a = [.inr (.inl 0), .inl p0] ∧ w = (kw_I m) ∧ wp2_upTo m p0
noncomputable def fm2_upTo : am_M := fun a w => (fun (z : Int32) => (some (.inl z), (kw_I (qs2 w 0)), 0, 0)) (fn2_upTo (qs2 w 0) (am_i (am_an a 1)))
theorem fe2_upTo (m : qt2) (p0 : Int32) : fm2_upTo [.inr (.inl 0), .inl p0] (kw_I m) = (some (.inl (fn2_upTo m p0)), (kw_I m), 0, 0) := rfl
set_option maxRecDepth 100000 in
set_option maxHeartbeats 4000000 in
theorem rn2_upTo : ∀ (a : List am_V) (w : List am_C), pr2_upTo a w → ∃ nq, am_ev (am_mk kb2_upTo (fm2_upTo a w).2.2.1 (fm2_upTo a w).2.2.2 w.length) [] nq (0, am_L0 a 2, [], w, 0, 0) = some ((fm2_upTo a w).1, (fm2_upTo a w).2.1) := by
  rintro a w ⟨m, p0, rfl, rfl, hp⟩
  rw [fe2_upTo m p0]
  exact am_lf_ev (re2_upTo m p0 hp)
theorem rl2_upTo : ∀ (a : List am_V) (w : List am_C), pr2_upTo a w → a.length ≤ 2 := by
  rintro a w ⟨m, p0, rfl, rfl, hp⟩
  exact Nat.le_of_ble_eq_true rfl
theorem pa2_upTo : ∀ a w, pr2_upTo a w → ∃ q a' ci fs r, a = .inr (.inl q) :: a' ∧ w[q]? = some (.inr (ci, fs)) ∧ hn_cl[ci]? = some r ∧ r.1 = hn_R2 := by
  rintro a w ⟨m, p0, rfl, rfl, hp⟩
  exact ⟨0, _, 2, _, _, rfl, rfl, rfl, rfl⟩
set_option maxRecDepth 100000 in
set_option maxHeartbeats 4000000 in
theorem km2_upTo {l : Launch} {E : (Nat → Prop) → State → Prop} {D : va_G} {ou : Nat → Nat} {ca : Nat → ClassId} (hE : hg_E E ou) : hg_Met l E D ou ca hy2_upTo prog_4_method_9_code 2 (some .int) 1 pr2_upTo fm2_upTo := by
  refine am_met (B := kb2_upTo) (cuts := []) (nt := 5) (by decide +kernel) rfl rfl (hg_tys_ok ca) ?_ (by decide) rl2_upTo ?_ rn2_upTo
  · exact fun t ht => List.mem_cons_of_mem _ (hg_arr t ht)
  · intro a w hp ad p e R s m args below meth c hR X hEs hnm
    have hR1 : 1 ≤ R.frames ∧ 40 ≤ R.locals := by rw [hR]; exact ⟨Nat.le_refl _, Nat.le_refl _⟩
    have hN := hE.2.1 _ _ hEs
    refine ⟨kd2_upTo_ok, fun index ci fi mode hq => kf2_ok X.2.2.2.2.1 hN.1 (index, ci, fi, mode) (am_as_mem hq), fun index ci fs hq => (am_no hq).elim, fun x v hq => (am_no hq).elim, ?_, fun o t n f hq => (am_no hq).elim, rfl, rfl, by rw [hR]; exact Nat.le_refl _, by rw [hR]; exact Nat.le_refl _⟩
    intro pc sel n0 pre0 f0 hq
    have hz : ∀ q ∈ ki2_upTo, am_CK p l e R s m args below meth c D hn_cl (va_A (am_w ad ou ca w) s.heap.size) ou ca 2 q.1 q.2.2.1 q.2.2.2.1 q.2.2.2.2 := by
      refine am_allc (am_ck_V (n := 1) X hEs hE.1 (km2_isVariable hE) (hg_good (gw_mem 700 (by decide +kernel))) rfl (List.mem_cons_of_mem _ (gw_mem 71 (by decide +kernel))) (List.mem_cons_of_mem _ (gw_mem 721 (by decide +kernel))) (List.mem_cons_of_mem _ (gw_mem 698 (by decide +kernel))) (List.mem_cons_of_mem _ (gw_mem 699 (by decide +kernel))) pa2_isVariable (by decide +kernel) ⟨Nat.le_trans (by decide) hR1.1, Nat.le_trans (by decide) hR1.2⟩ (kd2_upTo_ok (2, .invokevirtual 25, 3) (List.mem_of_getElem? (i := 2) rfl))) (am_all0)
    exact hz _ (am_as_mem hq)
noncomputable def ki2_first : List (Nat × Option (List Nat) × Nat × (List am_V → List am_C → Prop) × am_M) := [(2, none, 2, pr2_from, fm2_from), (7, none, 2, pr2_upTo, fm2_upTo), (15, none, 2, pr2_from, fm2_from)]
noncomputable def kb2_first : am_B := (kd2_first, am_as kf2, hn_ty, fun _ => none, fun _ => none, am_as ki2_first, fun _ => none, 5, 2, (some .int))
noncomputable def fn2_first (m : qt2) (p0 : Int32) : Int32 := Classical.choose (⟨_, rfl⟩ : ∃ z : Int32, z = (if (fn2_upTo m p0) ≤ (fn2_from m p0) then (-1 : Int32) else (fn2_from m p0)))
theorem fq2_first (m : qt2) (p0 : Int32) : fn2_first m p0 = (if (fn2_upTo m p0) ≤ (fn2_from m p0) then (-1 : Int32) else (fn2_from m p0)) := Classical.choose_spec (⟨_, rfl⟩ : ∃ z : Int32, z = (if (fn2_upTo m p0) ≤ (fn2_from m p0) then (-1 : Int32) else (fn2_from m p0)))
def wp2_first (m : qt2) (p0 : Int32) : Prop := ((wp2_from m p0) ∧ ((wp2_upTo m p0) ∧ (((fn2_upTo m p0) ≤ (fn2_from m p0) → True) ∧ (¬ (fn2_upTo m p0) ≤ (fn2_from m p0) → (wp2_from m p0)))))
set_option maxRecDepth 100000 in
set_option maxHeartbeats 4000000 in
theorem re2_first (m : qt2) (p0 : Int32) (hp : wp2_first m p0) : am_lf (am_mk kb2_first 0 0 5) [] (0, am_L0 [.inr (.inl 0), .inl p0] 2, [], (kw_I m), 0, 0) = some (some (.inl (fn2_first m p0)), (kw_I m)) := by
  unfold wp2_first at hp
  refine am_lf_eq ?_
  generalize am_lf (am_mk kb2_first 0 0 5) [] = kt
  refine am_cx (pre := pr2_from) (f := fm2_from) (r := (some (.inl (fn2_from m p0)), (kw_I m), 0, 0)) ?_ ?_ ?_ ?_
  · exact ⟨m, p0, rfl, rfl, hp.1⟩
  · exact fe2_from m p0
  · exact rfl
  refine am_cx (pre := pr2_upTo) (f := fm2_upTo) (r := (some (.inl (fn2_upTo m p0)), (kw_I m), 0, 0)) ?_ ?_ ?_ ?_
  · exact ⟨m, p0, rfl, rfl, hp.2.1⟩
  · exact fe2_upTo m p0
  · exact rfl
  refine am_if (c := (fn2_upTo m p0) ≤ (fn2_from m p0)) (fun h1 => ?_) (fun h1 => ?_)
  · have e : fn2_first m p0 = (-1 : Int32) := by
      rw [fq2_first]
      rw [if_pos h1]
    rw [e] <;> rfl
  · have q1 := hp.2.2.2 h1
    refine am_cx (pre := pr2_from) (f := fm2_from) (r := (some (.inl (fn2_from m p0)), (kw_I m), 0, 0)) ?_ ?_ ?_ ?_
    · exact ⟨m, p0, rfl, rfl, q1⟩
    · exact fe2_from m p0
    · exact rfl
    have e : fn2_first m p0 = (fn2_from m p0) := by
      rw [fq2_first]
      rw [if_neg h1]
    rw [e] <;> rfl
abbrev pr2_first : List am_V → List am_C → Prop := fun a w => ∃ (m : qt2) (p0 : Int32), a = [.inr (.inl 0), .inl p0] ∧ w = (kw_I m) ∧ wp2_first m p0
noncomputable def fm2_first : am_M := fun a w => (fun (z : Int32) => (some (.inl z), (kw_I (qs2 w 0)), 0, 0)) (fn2_first (qs2 w 0) (am_i (am_an a 1)))
theorem fe2_first (m : qt2) (p0 : Int32) : fm2_first [.inr (.inl 0), .inl p0] (kw_I m) = (some (.inl (fn2_first m p0)), (kw_I m), 0, 0) := rfl
set_option maxRecDepth 100000 in
set_option maxHeartbeats 4000000 in
theorem rn2_first : ∀ (a : List am_V) (w : List am_C), pr2_first a w → ∃ nq, am_ev (am_mk kb2_first (fm2_first a w).2.2.1 (fm2_first a w).2.2.2 w.length) [] nq (0, am_L0 a 2, [], w, 0, 0) = some ((fm2_first a w).1, (fm2_first a w).2.1) := by
  rintro a w ⟨m, p0, rfl, rfl, hp⟩
  rw [fe2_first m p0]
  exact am_lf_ev (re2_first m p0 hp)
theorem rl2_first : ∀ (a : List am_V) (w : List am_C), pr2_first a w → a.length ≤ 2 := by
  rintro a w ⟨m, p0, rfl, rfl, hp⟩
  exact Nat.le_of_ble_eq_true rfl
theorem pa2_first : ∀ a w, pr2_first a w → ∃ q a' ci fs r, a = .inr (.inl q) :: a' ∧ w[q]? = some (.inr (ci, fs)) ∧ hn_cl[ci]? = some r ∧ r.1 = hn_R2 := by
  rintro a w ⟨m, p0, rfl, rfl, hp⟩
  exact ⟨0, _, 2, _, _, rfl, rfl, rfl, rfl⟩
set_option maxRecDepth 100000 in
set_option maxHeartbeats 4000000 in
theorem km2_first {l : Launch} {E : (Nat → Prop) → State → Prop} {D : va_G} {ou : Nat → Nat} {ca : Nat → ClassId} (hE : hg_E E ou) : hg_Met l E D ou ca hy2_first prog_4_method_10_code 2 (some .int) 2 pr2_first fm2_first := by
  refine am_met (B := kb2_first) (cuts := []) (nt := 5) (by decide +kernel) rfl rfl (hg_tys_ok ca) ?_ (by decide) rl2_first ?_ rn2_first
  · exact fun t ht => List.mem_cons_of_mem _ (hg_arr t ht)
  · intro a w hp ad p e R s m args below meth c hR X hEs hnm
    have hR1 : 2 ≤ R.frames ∧ 80 ≤ R.locals := by rw [hR]; exact ⟨Nat.le_refl _, Nat.le_refl _⟩
    have hN := hE.2.1 _ _ hEs
    refine ⟨kd2_first_ok, fun index ci fi mode hq => kf2_ok X.2.2.2.2.1 hN.1 (index, ci, fi, mode) (am_as_mem hq), fun index ci fs hq => (am_no hq).elim, fun x v hq => (am_no hq).elim, ?_, fun o t n f hq => (am_no hq).elim, rfl, rfl, by rw [hR]; exact Nat.le_refl _, by rw [hR]; exact Nat.le_refl _⟩
    intro pc sel n0 pre0 f0 hq
    have hz : ∀ q ∈ ki2_first, am_CK p l e R s m args below meth c D hn_cl (va_A (am_w ad ou ca w) s.heap.size) ou ca 2 q.1 q.2.2.1 q.2.2.2.1 q.2.2.2.2 := by
      refine am_allc (am_ck_V (n := 1) X hEs hE.1 (km2_from hE) (hg_good (gw_mem 787 (by decide +kernel))) rfl (List.mem_cons_of_mem _ (gw_mem 71 (by decide +kernel))) (List.mem_cons_of_mem _ (gw_mem 784 (by decide +kernel))) (List.mem_cons_of_mem _ (gw_mem 785 (by decide +kernel))) (List.mem_cons_of_mem _ (gw_mem 786 (by decide +kernel))) pa2_from (by decide +kernel) ⟨Nat.le_trans (by decide) hR1.1, Nat.le_trans (by decide) hR1.2⟩ (kd2_first_ok (2, .invokevirtual 43, 3) (List.mem_of_getElem? (i := 2) rfl))) (am_allc (am_ck_V (n := 1) X hEs hE.1 (km2_upTo hE) (hg_good (gw_mem 791 (by decide +kernel))) rfl (List.mem_cons_of_mem _ (gw_mem 71 (by decide +kernel))) (List.mem_cons_of_mem _ (gw_mem 788 (by decide +kernel))) (List.mem_cons_of_mem _ (gw_mem 789 (by decide +kernel))) (List.mem_cons_of_mem _ (gw_mem 790 (by decide +kernel))) pa2_upTo (by decide +kernel) ⟨Nat.le_trans (by decide) hR1.1, Nat.le_trans (by decide) hR1.2⟩ (kd2_first_ok (7, .invokevirtual 46, 3) (List.mem_of_getElem? (i := 5) rfl))) (am_allc (am_ck_V (n := 1) X hEs hE.1 (km2_from hE) (hg_good (gw_mem 787 (by decide +kernel))) rfl (List.mem_cons_of_mem _ (gw_mem 71 (by decide +kernel))) (List.mem_cons_of_mem _ (gw_mem 784 (by decide +kernel))) (List.mem_cons_of_mem _ (gw_mem 785 (by decide +kernel))) (List.mem_cons_of_mem _ (gw_mem 786 (by decide +kernel))) pa2_from (by decide +kernel) ⟨Nat.le_trans (by decide) hR1.1, Nat.le_trans (by decide) hR1.2⟩ (kd2_first_ok (15, .invokevirtual 43, 3) (List.mem_of_getElem? (i := 9) rfl))) (am_all0)))
    exact hz _ (am_as_mem hq)
