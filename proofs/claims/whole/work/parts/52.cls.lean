noncomputable def ki2_length : List (Nat × Option (List Nat) × Nat × (List am_V → List am_C → Prop) × am_M) := []
noncomputable def kb2_length : am_B := (kd2_length, am_as kf2, hn_ty, fun _ => none, fun _ => none, am_as ki2_length, fun _ => none, 5, 2, (some .int))
noncomputable def fn2_length (m : qt2) (p0 : Int32) : Int32 := Classical.choose (⟨_, rfl⟩ : ∃ z : Int32, z = (if p0 < 0 then (0 : Int32) else (if (32 : Int32) ≤ p0 then (0 : Int32) else ((qg2_lengths m) (p0).toNatClampNeg))))
theorem fq2_length (m : qt2) (p0 : Int32) : fn2_length m p0 = (if p0 < 0 then (0 : Int32) else (if (32 : Int32) ≤ p0 then (0 : Int32) else ((qg2_lengths m) (p0).toNatClampNeg))) := Classical.choose_spec (⟨_, rfl⟩ : ∃ z : Int32, z = (if p0 < 0 then (0 : Int32) else (if (32 : Int32) ≤ p0 then (0 : Int32) else ((qg2_lengths m) (p0).toNatClampNeg))))
def wp2_length (m : qt2) (p0 : Int32) : Prop := ((p0 < 0 → True) ∧ (¬ p0 < 0 → (((32 : Int32) ≤ p0 → True) ∧ (¬ (32 : Int32) ≤ p0 → (am_inb p0 32 = true)))))
set_option maxRecDepth 100000 in
set_option maxHeartbeats 4000000 in
theorem re2_length (m : qt2) (p0 : Int32) (hp : wp2_length m p0) : am_lf (am_mk kb2_length 0 0 5) [] (0, am_L0 [.inr (.inl 0), .inl p0] 2, [], (kw_I m), 0, 0) = some (some (.inl (fn2_length m p0)), (kw_I m)) := by
  unfold wp2_length at hp
  refine am_lf_eq ?_
  generalize am_lf (am_mk kb2_length 0 0 5) [] = kt
  refine am_if (c := p0 < 0) (fun h1 => ?_) (fun h1 => ?_)
  · have e : fn2_length m p0 = (0 : Int32) := by
      rw [fq2_length]
      rw [if_pos h1]
    rw [e] <;> rfl
  · have q1 := hp.2 h1
    refine am_if (c := (32 : Int32) ≤ p0) (fun h2 => ?_) (fun h2 => ?_)
    · have e : fn2_length m p0 = (0 : Int32) := by
        rw [fq2_length]
        rw [if_neg h1, if_pos h2]
      rw [e] <;> rfl
    · have q2 := q1.2 h2
      refine am_ci (c := am_inb p0 32 = true) q2 ?_
      have e : fn2_length m p0 = ((qg2_lengths m) (p0).toNatClampNeg) := by
        rw [fq2_length]
        rw [if_neg h1, if_neg h2]
      rw [e] <;> rfl
abbrev pr2_length : List am_V → List am_C → Prop := fun a w => ∃ (m : qt2) (p0 : Int32), a = [.inr (.inl 0), .inl p0] ∧ w = (kw_I m) ∧ wp2_length m p0
noncomputable def fm2_length : am_M := fun a w => (fun (z : Int32) => (some (.inl z), (kw_I (qs2 w 0)), 0, 0)) (fn2_length (qs2 w 0) (am_i (am_an a 1)))
theorem fe2_length (m : qt2) (p0 : Int32) : fm2_length [.inr (.inl 0), .inl p0] (kw_I m) = (some (.inl (fn2_length m p0)), (kw_I m), 0, 0) := rfl
set_option maxRecDepth 100000 in
set_option maxHeartbeats 4000000 in
theorem rn2_length : ∀ (a : List am_V) (w : List am_C), pr2_length a w → ∃ nq, am_ev (am_mk kb2_length (fm2_length a w).2.2.1 (fm2_length a w).2.2.2 w.length) [] nq (0, am_L0 a 2, [], w, 0, 0) = some ((fm2_length a w).1, (fm2_length a w).2.1) := by
  rintro a w ⟨m, p0, rfl, rfl, hp⟩
  rw [fe2_length m p0]
  exact am_lf_ev (re2_length m p0 hp)
theorem rl2_length : ∀ (a : List am_V) (w : List am_C), pr2_length a w → a.length ≤ 2 := by
  rintro a w ⟨m, p0, rfl, rfl, hp⟩
  exact Nat.le_of_ble_eq_true rfl
theorem pa2_length : ∀ a w, pr2_length a w → ∃ q a' ci fs r, a = .inr (.inl q) :: a' ∧ w[q]? = some (.inr (ci, fs)) ∧ hn_cl[ci]? = some r ∧ r.1 = hn_R2 := by
  rintro a w ⟨m, p0, rfl, rfl, hp⟩
  exact ⟨0, _, 2, _, _, rfl, rfl, rfl, rfl⟩
set_option maxRecDepth 100000 in
set_option maxHeartbeats 4000000 in
theorem km2_length {l : Launch} {E : (Nat → Prop) → State → Prop} {D : va_G} {ou : Nat → Nat} {ca : Nat → ClassId} (hE : hg_E E ou) : hg_Met l E D ou ca hy2_length prog_4_method_11_code 2 (some .int) 0 pr2_length fm2_length := by
  refine am_met (B := kb2_length) (cuts := []) (nt := 5) (by decide +kernel) rfl rfl (hg_tys_ok ca) ?_ (by decide) rl2_length ?_ rn2_length
  · exact fun t ht => List.mem_cons_of_mem _ (hg_arr t ht)
  · intro a w hp ad p e R s m args below meth c hR X hEs hnm
    have hR1 : 0 ≤ R.frames ∧ 0 ≤ R.locals := by rw [hR]; exact ⟨Nat.le_refl _, Nat.le_refl _⟩
    have hN := hE.2.1 _ _ hEs
    refine ⟨kd2_length_ok, fun index ci fi mode hq => kf2_ok X.2.2.2.2.1 hN.1 (index, ci, fi, mode) (am_as_mem hq), fun index ci fs hq => (am_no hq).elim, fun x v hq => (am_no hq).elim, ?_, fun o t n f hq => (am_no hq).elim, rfl, rfl, by rw [hR]; exact Nat.le_refl _, by rw [hR]; exact Nat.le_refl _⟩
    intro pc sel n0 pre0 f0 hq
    exact (am_no hq).elim
noncomputable def ki2_at : List (Nat × Option (List Nat) × Nat × (List am_V → List am_C → Prop) × am_M) := []
noncomputable def kb2_at : am_B := (kd2_at, am_as kf2, hn_ty, fun _ => none, fun _ => none, am_as ki2_at, fun _ => none, 5, 4, (some .char))
noncomputable def fn2_at_c32 (m : qt2) (v1 : Int32) (v2 : Int32) (u0 : Int32) : Int32 := (if u0 = 0 then (0 : Int32) else ((qg2_chars m) (((v1 * (40 : Int32)) + v2)).toNatClampNeg))
def wp2_at_c32 (m : qt2) (v1 : Int32) (v2 : Int32) (u0 : Int32) : Prop := ((u0 = 0 → True) ∧ (¬ u0 = 0 → (am_inb ((v1 * (40 : Int32)) + v2) 1280 = true ∧ (am_fit .char (.inl ((qg2_chars m) (((v1 * (40 : Int32)) + v2)).toNatClampNeg)) = true))))
set_option maxRecDepth 100000 in
set_option maxHeartbeats 4000000 in
theorem rc2_at_32 (m : qt2) (v1 : Int32) (v2 : Int32) (u0 : Int32) (j3 : Option am_V) (g3 : am_loO 5 j3 = true) (hp : wp2_at_c32 m v1 v2 u0) : am_lf (am_mk kb2_at 0 0 5) [31, 32] (32, [some (.inr (.inl 0)), some (.inl v1), some (.inl v2), j3], [.inl u0], (kw_I m), 0, 0) = some (some (.inl (fn2_at_c32 m v1 v2 u0)), (kw_I m)) := by
  unfold wp2_at_c32 at hp
  refine am_lf_eq ?_
  generalize am_lf (am_mk kb2_at 0 0 5) [31, 32] = kt
  refine am_if (c := u0 = 0) (fun h1 => ?_) (fun h1 => ?_)
  · have e : fn2_at_c32 m v1 v2 u0 = (0 : Int32) := by
      rw [fn2_at_c32]
      rw [if_pos h1]
    rw [e] <;> rfl
  · have q1 := hp.2 h1
    refine am_ci (c := am_inb ((v1 * (40 : Int32)) + v2) 1280 = true) q1.1 ?_
    refine am_ci (c := am_fit .char (.inl ((qg2_chars m) (((v1 * (40 : Int32)) + v2)).toNatClampNeg)) = true) q1.2 ?_
    have e : fn2_at_c32 m v1 v2 u0 = ((qg2_chars m) (((v1 * (40 : Int32)) + v2)).toNatClampNeg) := by
      rw [fn2_at_c32]
      rw [if_neg h1]
    rw [e] <;> rfl
noncomputable def fn2_at_c31 (m : qt2) (v1 : Int32) (v2 : Int32) : Int32 := (fn2_at_c32 m v1 v2 (0 : Int32))
def wp2_at_c31 (m : qt2) (v1 : Int32) (v2 : Int32) : Prop := (wp2_at_c32 m v1 v2 (0 : Int32))
set_option maxRecDepth 100000 in
set_option maxHeartbeats 4000000 in
theorem rc2_at_31 (m : qt2) (v1 : Int32) (v2 : Int32) (j3 : Option am_V) (g3 : am_loO 5 j3 = true) (hp : wp2_at_c31 m v1 v2) : am_lf (am_mk kb2_at 0 0 5) [31, 32] (31, [some (.inr (.inl 0)), some (.inl v1), some (.inl v2), j3], [], (kw_I m), 0, 0) = some (some (.inl (fn2_at_c31 m v1 v2)), (kw_I m)) := by
  unfold wp2_at_c31 at hp
  have i32 := @rc2_at_32
  refine am_lf_eq ?_
  generalize am_lf (am_mk kb2_at 0 0 5) [31, 32] = kt at i32 ⊢
  have e : fn2_at_c31 m v1 v2 = fn2_at_c32 m v1 v2 (0 : Int32) := by
    rw [fn2_at_c31]
  rw [e]
  exact i32 m v1 v2 (0 : Int32) _ g3 hp
noncomputable def fn2_at (m : qt2) (p0 : Int32) (p1 : Int32) : Int32 := Classical.choose (⟨_, rfl⟩ : ∃ z : Int32, z = (if p0 < 0 then (fn2_at_c31 m p0 p1) else (if (32 : Int32) ≤ p0 then (fn2_at_c31 m p0 p1) else (if p1 < 0 then (fn2_at_c31 m p0 p1) else (if ((qg2_lengths m) (p0).toNatClampNeg) ≤ p1 then (fn2_at_c31 m p0 p1) else (fn2_at_c32 m p0 p1 (1 : Int32)))))))
theorem fq2_at (m : qt2) (p0 : Int32) (p1 : Int32) : fn2_at m p0 p1 = (if p0 < 0 then (fn2_at_c31 m p0 p1) else (if (32 : Int32) ≤ p0 then (fn2_at_c31 m p0 p1) else (if p1 < 0 then (fn2_at_c31 m p0 p1) else (if ((qg2_lengths m) (p0).toNatClampNeg) ≤ p1 then (fn2_at_c31 m p0 p1) else (fn2_at_c32 m p0 p1 (1 : Int32)))))) := Classical.choose_spec (⟨_, rfl⟩ : ∃ z : Int32, z = (if p0 < 0 then (fn2_at_c31 m p0 p1) else (if (32 : Int32) ≤ p0 then (fn2_at_c31 m p0 p1) else (if p1 < 0 then (fn2_at_c31 m p0 p1) else (if ((qg2_lengths m) (p0).toNatClampNeg) ≤ p1 then (fn2_at_c31 m p0 p1) else (fn2_at_c32 m p0 p1 (1 : Int32)))))))
def wp2_at (m : qt2) (p0 : Int32) (p1 : Int32) : Prop := ((p0 < 0 → (wp2_at_c31 m p0 p1)) ∧ (¬ p0 < 0 → (((32 : Int32) ≤ p0 → (wp2_at_c31 m p0 p1)) ∧ (¬ (32 : Int32) ≤ p0 → ((p1 < 0 → (wp2_at_c31 m p0 p1)) ∧ (¬ p1 < 0 → (am_inb p0 32 = true ∧ ((((qg2_lengths m) (p0).toNatClampNeg) ≤ p1 → (wp2_at_c31 m p0 p1)) ∧ (¬ ((qg2_lengths m) (p0).toNatClampNeg) ≤ p1 → (wp2_at_c32 m p0 p1 (1 : Int32)))))))))))
set_option maxRecDepth 100000 in
set_option maxHeartbeats 4000000 in
theorem re2_at (m : qt2) (p0 : Int32) (p1 : Int32) (hp : wp2_at m p0 p1) : am_lf (am_mk kb2_at 0 0 5) [31, 32] (0, am_L0 [.inr (.inl 0), .inl p0, .inl p1] 4, [], (kw_I m), 0, 0) = some (some (.inl (fn2_at m p0 p1)), (kw_I m)) := by
  unfold wp2_at at hp
  have i31 := @rc2_at_31
  have i32 := @rc2_at_32
  refine am_lf_eq ?_
  generalize am_lf (am_mk kb2_at 0 0 5) [31, 32] = kt at i31 i32 ⊢
  refine am_if (c := p0 < 0) (fun h1 => ?_) (fun h1 => ?_)
  · have q1 := hp.1 h1
    have e : fn2_at m p0 p1 = fn2_at_c31 m p0 p1 := by
      rw [fq2_at]
      rw [if_pos h1]
    rw [e]
    exact i31 m p0 p1 _ rfl q1
  · have q1 := hp.2 h1
    refine am_if (c := (32 : Int32) ≤ p0) (fun h2 => ?_) (fun h2 => ?_)
    · have q2 := q1.1 h2
      have e : fn2_at m p0 p1 = fn2_at_c31 m p0 p1 := by
        rw [fq2_at]
        rw [if_neg h1, if_pos h2]
      rw [e]
      exact i31 m p0 p1 _ rfl q2
    · have q2 := q1.2 h2
      refine am_if (c := p1 < 0) (fun h3 => ?_) (fun h3 => ?_)
      · have q3 := q2.1 h3
        have e : fn2_at m p0 p1 = fn2_at_c31 m p0 p1 := by
          rw [fq2_at]
          rw [if_neg h1, if_neg h2, if_pos h3]
        rw [e]
        exact i31 m p0 p1 _ rfl q3
      · have q3 := q2.2 h3
        refine am_ci (c := am_inb p0 32 = true) q3.1 ?_
        refine am_if (c := ((qg2_lengths m) (p0).toNatClampNeg) ≤ p1) (fun h4 => ?_) (fun h4 => ?_)
        · have q4 := q3.2.1 h4
          have e : fn2_at m p0 p1 = fn2_at_c31 m p0 p1 := by
            rw [fq2_at]
            rw [if_neg h1, if_neg h2, if_neg h3, if_pos h4]
          rw [e]
          exact i31 m p0 p1 _ rfl q4
        · have q4 := q3.2.2 h4
          have e : fn2_at m p0 p1 = fn2_at_c32 m p0 p1 (1 : Int32) := by
            rw [fq2_at]
            rw [if_neg h1, if_neg h2, if_neg h3, if_neg h4]
          rw [e]
          exact i32 m p0 p1 (1 : Int32) _ rfl q4
abbrev pr2_at : List am_V → List am_C → Prop := fun a w => ∃ (m : qt2) (p0 : Int32) (p1 : Int32), a = [.inr (.inl 0), .inl p0, .inl p1] ∧ w = (kw_I m) ∧ wp2_at m p0 p1
noncomputable def fm2_at : am_M := fun a w => (fun (z : Int32) => (some (.inl z), (kw_I (qs2 w 0)), 0, 0)) (fn2_at (qs2 w 0) (am_i (am_an a 1)) (am_i (am_an a 2)))
theorem fe2_at (m : qt2) (p0 : Int32) (p1 : Int32) : fm2_at [.inr (.inl 0), .inl p0, .inl p1] (kw_I m) = (some (.inl (fn2_at m p0 p1)), (kw_I m), 0, 0) := rfl
set_option maxRecDepth 100000 in
set_option maxHeartbeats 4000000 in
theorem rn2_at : ∀ (a : List am_V) (w : List am_C), pr2_at a w → ∃ nq, am_ev (am_mk kb2_at (fm2_at a w).2.2.1 (fm2_at a w).2.2.2 w.length) [31, 32] nq (0, am_L0 a 4, [], w, 0, 0) = some ((fm2_at a w).1, (fm2_at a w).2.1) := by
  rintro a w ⟨m, p0, p1, rfl, rfl, hp⟩
  rw [fe2_at m p0 p1]
  exact am_lf_ev (re2_at m p0 p1 hp)
theorem rl2_at : ∀ (a : List am_V) (w : List am_C), pr2_at a w → a.length ≤ 4 := by
  rintro a w ⟨m, p0, p1, rfl, rfl, hp⟩
  exact Nat.le_of_ble_eq_true rfl
theorem pa2_at : ∀ a w, pr2_at a w → ∃ q a' ci fs r, a = .inr (.inl q) :: a' ∧ w[q]? = some (.inr (ci, fs)) ∧ hn_cl[ci]? = some r ∧ r.1 = hn_R2 := by
  rintro a w ⟨m, p0, p1, rfl, rfl, hp⟩
  exact ⟨0, _, 2, _, _, rfl, rfl, rfl, rfl⟩
set_option maxRecDepth 100000 in
set_option maxHeartbeats 4000000 in
theorem km2_at {l : Launch} {E : (Nat → Prop) → State → Prop} {D : va_G} {ou : Nat → Nat} {ca : Nat → ClassId} (hE : hg_E E ou) : hg_Met l E D ou ca hy2_at prog_4_method_12_code 4 (some .char) 0 pr2_at fm2_at := by
  refine am_met (B := kb2_at) (cuts := [31, 32]) (nt := 5) (by decide +kernel) rfl rfl (hg_tys_ok ca) ?_ (by decide) rl2_at ?_ rn2_at
  · exact fun t ht => List.mem_cons_of_mem _ (hg_arr t ht)
  · intro a w hp ad p e R s m args below meth c hR X hEs hnm
    have hR1 : 0 ≤ R.frames ∧ 0 ≤ R.locals := by rw [hR]; exact ⟨Nat.le_refl _, Nat.le_refl _⟩
    have hN := hE.2.1 _ _ hEs
    refine ⟨kd2_at_ok, fun index ci fi mode hq => kf2_ok X.2.2.2.2.1 hN.1 (index, ci, fi, mode) (am_as_mem hq), fun index ci fs hq => (am_no hq).elim, fun x v hq => (am_no hq).elim, ?_, fun o t n f hq => (am_no hq).elim, rfl, rfl, by rw [hR]; exact Nat.le_refl _, by rw [hR]; exact Nat.le_refl _⟩
    intro pc sel n0 pre0 f0 hq
    exact (am_no hq).elim
noncomputable def ki2_begins : List (Nat × Option (List Nat) × Nat × (List am_V → List am_C → Prop) × am_M) := [(2, some [], 1, prJ_length, fmJ_length), (33, none, 3, pr2_at, fm2_at), (36, some [], 1, pr4_small, fm4_small), (42, some [], 2, prJ_charAt, fmJ_charAt)]
noncomputable def kb2_begins : am_B := (kd2_begins, am_as kf2, hn_ty, fun _ => none, fun _ => none, am_as ki2_begins, fun _ => none, 5, 6, (some .boolean))
noncomputable def fn2_begins_c18 : Nat → qt2 → Int32 → Int32 → Nat → Int32 → Int32 → Int32
  | 0, _, _, _, _, _, _ => 0
  | fu + 1, m, v1, v2, v3, v4, v5 => (if v2 ≤ v5 then v4 else (if v4 = 0 then v4 else (if (fn4_small (fn2_at m v1 v5)) = (fnJ_charAt v3 v5) then (fn2_begins_c18 fu m v1 v2 v3 (1 : Int32) (v5 + (1 : Int32))) else (fn2_begins_c18 fu m v1 v2 v3 (0 : Int32) (v5 + (1 : Int32))))))
def wp2_begins_c18 : Nat → qt2 → Int32 → Int32 → Nat → Int32 → Int32 → Prop
  | 0, _, _, _, _, _, _ => False
  | fu + 1, m, v1, v2, v3, v4, v5 => ((v2 ≤ v5 → (am_fit .boolean (.inl v4) = true)) ∧ (¬ v2 ≤ v5 → ((v4 = 0 → (am_fit .boolean (.inl v4) = true)) ∧ (¬ v4 = 0 → ((wp2_at m v1 v5) ∧ ((wp4_small (fn2_at m v1 v5)) ∧ ((wpJ_charAt v3 v5) ∧ (((fn4_small (fn2_at m v1 v5)) = (fnJ_charAt v3 v5) → (wp2_begins_c18 fu m v1 v2 v3 (1 : Int32) (v5 + (1 : Int32)))) ∧ (¬ (fn4_small (fn2_at m v1 v5)) = (fnJ_charAt v3 v5) → (wp2_begins_c18 fu m v1 v2 v3 (0 : Int32) (v5 + (1 : Int32))))))))))))
set_option maxRecDepth 100000 in
set_option maxHeartbeats 4000000 in
theorem rc2_begins_18 : ∀ (fu : Nat) (m : qt2) (v1 : Int32) (v2 : Int32) (v3 : Nat) (v4 : Int32) (v5 : Int32) , wp2_begins_c18 fu m v1 v2 v3 v4 v5 → am_lf (am_mk kb2_begins 0 0 5) [18] (18, [some (.inr (.inl 0)), some (.inl v1), some (.inl v2), some (.inr (.inr (v3 + 1))), some (.inl v4), some (.inl v5)], [], (kw_I m), 0, 0) = some (some (.inl (fn2_begins_c18 fu m v1 v2 v3 v4 v5)), (kw_I m)) := by
  intro fu
  induction fu with
  | zero =>
    intro m v1 v2 v3 v4 v5 hp
    exact hp.elim
  | succ fu ih =>
    intro m v1 v2 v3 v4 v5 hp
    unfold wp2_begins_c18 at hp
    refine am_lf_eq ?_
    generalize am_lf (am_mk kb2_begins 0 0 5) [18] = kt at ih ⊢
    refine am_if (c := v2 ≤ v5) (fun h2 => ?_) (fun h2 => ?_)
    · have q2 := hp.1 h2
      refine am_ci (c := am_fit .boolean (.inl v4) = true) q2 ?_
      have e : fn2_begins_c18 (fu + 1) m v1 v2 v3 v4 v5 = v4 := by
        rw [fn2_begins_c18]
        rw [if_pos h2]
      rw [e] <;> rfl
    · have q2 := hp.2 h2
      refine am_if (c := v4 = 0) (fun h3 => ?_) (fun h3 => ?_)
      · have q3 := q2.1 h3
        refine am_ci (c := am_fit .boolean (.inl v4) = true) q3 ?_
        have e : fn2_begins_c18 (fu + 1) m v1 v2 v3 v4 v5 = v4 := by
          rw [fn2_begins_c18]
          rw [if_neg h2, if_pos h3]
        rw [e] <;> rfl
      · have q3 := q2.2 h3
        refine am_cx (pre := pr2_at) (f := fm2_at) (r := (some (.inl (fn2_at m v1 v5)), (kw_I m), 0, 0)) ?_ ?_ ?_ ?_
        · exact ⟨m, v1, v5, rfl, rfl, q3.1⟩
        · exact fe2_at m v1 v5
        · exact rfl
        refine am_cy (pre := pr4_small) (f := fm4_small) (a' := [.inl (fn2_at m v1 v5)]) (wc := []) (w' := (kw_I m)) (r := (some (.inl (fn4_small (fn2_at m v1 v5))), [], 0, 0)) ?_ ?_ ?_ ?_ ?_ ?_ ?_ ?_ ?_ ?_
        · exact am_sow0 _
        · rfl
        · rfl
        · exact am_sub0 _
        · exact ⟨(fn2_at m v1 v5), rfl, rfl, q3.2.1⟩
        · exact fe4_small (fn2_at m v1 v5)
        · exact rfl
        · rfl
        · exact am_mix0 _
        refine am_cy (pre := prJ_charAt) (f := fmJ_charAt) (a' := [.inr (.inr (v3 + 1)), .inl v5]) (wc := []) (w' := (kw_I m)) (r := (some (.inl (fnJ_charAt v3 v5)), [], 0, 0)) ?_ ?_ ?_ ?_ ?_ ?_ ?_ ?_ ?_ ?_
        · exact am_sow0 _
        · rfl
        · rfl
        · exact am_sub0 _
        · exact ⟨v3, v5, rfl, rfl, q3.2.2.1⟩
        · exact feJ_charAt v3 v5
        · exact rfl
        · rfl
        · exact am_mix0 _
        refine am_if (c := (fn4_small (fn2_at m v1 v5)) = (fnJ_charAt v3 v5)) (fun h4 => ?_) (fun h4 => ?_)
        · have q4 := q3.2.2.2.1 h4
          have e : fn2_begins_c18 (fu + 1) m v1 v2 v3 v4 v5 = fn2_begins_c18 fu m v1 v2 v3 (1 : Int32) (v5 + (1 : Int32)) := by
            rw [fn2_begins_c18]
            rw [if_neg h2, if_neg h3, if_pos h4]
          rw [e]
          exact ih m v1 v2 v3 (1 : Int32) (v5 + (1 : Int32))  q4
        · have q4 := q3.2.2.2.2 h4
          have e : fn2_begins_c18 (fu + 1) m v1 v2 v3 v4 v5 = fn2_begins_c18 fu m v1 v2 v3 (0 : Int32) (v5 + (1 : Int32)) := by
            rw [fn2_begins_c18]
            rw [if_neg h2, if_neg h3, if_neg h4]
          rw [e]
          exact ih m v1 v2 v3 (0 : Int32) (v5 + (1 : Int32))  q4
noncomputable def fn2_begins (m : qt2) (p0 : Int32) (p1 : Int32) (p2 : Nat) : Int32 := Classical.choose (⟨_, rfl⟩ : ∃ z : Int32, z = (if p1 = (fnJ_length p2) then (fn2_begins_c18 hg_fu m p0 p1 p2 (1 : Int32) (0 : Int32)) else (fn2_begins_c18 hg_fu m p0 p1 p2 (0 : Int32) (0 : Int32))))
theorem fq2_begins (m : qt2) (p0 : Int32) (p1 : Int32) (p2 : Nat) : fn2_begins m p0 p1 p2 = (if p1 = (fnJ_length p2) then (fn2_begins_c18 hg_fu m p0 p1 p2 (1 : Int32) (0 : Int32)) else (fn2_begins_c18 hg_fu m p0 p1 p2 (0 : Int32) (0 : Int32))) := Classical.choose_spec (⟨_, rfl⟩ : ∃ z : Int32, z = (if p1 = (fnJ_length p2) then (fn2_begins_c18 hg_fu m p0 p1 p2 (1 : Int32) (0 : Int32)) else (fn2_begins_c18 hg_fu m p0 p1 p2 (0 : Int32) (0 : Int32))))
def wp2_begins (m : qt2) (p0 : Int32) (p1 : Int32) (p2 : Nat) : Prop := ((wpJ_length p2) ∧ ((p1 = (fnJ_length p2) → (wp2_begins_c18 hg_fu m p0 p1 p2 (1 : Int32) (0 : Int32))) ∧ (¬ p1 = (fnJ_length p2) → (wp2_begins_c18 hg_fu m p0 p1 p2 (0 : Int32) (0 : Int32)))))
set_option maxRecDepth 100000 in
set_option maxHeartbeats 4000000 in
theorem re2_begins (m : qt2) (p0 : Int32) (p1 : Int32) (p2 : Nat) (hp : wp2_begins m p0 p1 p2) : am_lf (am_mk kb2_begins 0 0 5) [18] (0, am_L0 [.inr (.inl 0), .inl p0, .inl p1, .inr (.inr (p2 + 1))] 6, [], (kw_I m), 0, 0) = some (some (.inl (fn2_begins m p0 p1 p2)), (kw_I m)) := by
  unfold wp2_begins at hp
  have i18 := @rc2_begins_18
  refine am_lf_eq ?_
  generalize am_lf (am_mk kb2_begins 0 0 5) [18] = kt at i18 ⊢
  refine am_cy (pre := prJ_length) (f := fmJ_length) (a' := [.inr (.inr (p2 + 1))]) (wc := []) (w' := (kw_I m)) (r := (some (.inl (fnJ_length p2)), [], 0, 0)) ?_ ?_ ?_ ?_ ?_ ?_ ?_ ?_ ?_ ?_
  · exact am_sow0 _
  · rfl
  · rfl
  · exact am_sub0 _
  · exact ⟨p2, rfl, rfl, hp.1⟩
  · exact feJ_length p2
  · exact rfl
  · rfl
  · exact am_mix0 _
  refine am_if (c := p1 = (fnJ_length p2)) (fun h1 => ?_) (fun h1 => ?_)
  · have q1 := hp.2.1 h1
    have e : fn2_begins m p0 p1 p2 = fn2_begins_c18 hg_fu m p0 p1 p2 (1 : Int32) (0 : Int32) := by
      rw [fq2_begins]
      rw [if_pos h1]
    rw [e]
    exact i18 hg_fu m p0 p1 p2 (1 : Int32) (0 : Int32)  q1
  · have q1 := hp.2.2 h1
    have e : fn2_begins m p0 p1 p2 = fn2_begins_c18 hg_fu m p0 p1 p2 (0 : Int32) (0 : Int32) := by
      rw [fq2_begins]
      rw [if_neg h1]
    rw [e]
    exact i18 hg_fu m p0 p1 p2 (0 : Int32) (0 : Int32)  q1
abbrev pr2_begins : List am_V → List am_C → Prop := fun a w => ∃ (m : qt2) (p0 : Int32) (p1 : Int32) (p2 : Nat), a = [.inr (.inl 0), .inl p0, .inl p1, .inr (.inr (p2 + 1))] ∧ w = (kw_I m) ∧ wp2_begins m p0 p1 p2
noncomputable def fm2_begins : am_M := fun a w => (fun (z : Int32) => (some (.inl z), (kw_I (qs2 w 0)), 0, 0)) (fn2_begins (qs2 w 0) (am_i (am_an a 1)) (am_i (am_an a 2)) (am_n (am_an a 3)))
theorem fe2_begins (m : qt2) (p0 : Int32) (p1 : Int32) (p2 : Nat) : fm2_begins [.inr (.inl 0), .inl p0, .inl p1, .inr (.inr (p2 + 1))] (kw_I m) = (some (.inl (fn2_begins m p0 p1 p2)), (kw_I m), 0, 0) := rfl
set_option maxRecDepth 100000 in
set_option maxHeartbeats 4000000 in
theorem rn2_begins : ∀ (a : List am_V) (w : List am_C), pr2_begins a w → ∃ nq, am_ev (am_mk kb2_begins (fm2_begins a w).2.2.1 (fm2_begins a w).2.2.2 w.length) [18] nq (0, am_L0 a 6, [], w, 0, 0) = some ((fm2_begins a w).1, (fm2_begins a w).2.1) := by
  rintro a w ⟨m, p0, p1, p2, rfl, rfl, hp⟩
  rw [fe2_begins m p0 p1 p2]
  exact am_lf_ev (re2_begins m p0 p1 p2 hp)
theorem rl2_begins : ∀ (a : List am_V) (w : List am_C), pr2_begins a w → a.length ≤ 6 := by
  rintro a w ⟨m, p0, p1, p2, rfl, rfl, hp⟩
  exact Nat.le_of_ble_eq_true rfl
theorem pa2_begins : ∀ a w, pr2_begins a w → ∃ q a' ci fs r, a = .inr (.inl q) :: a' ∧ w[q]? = some (.inr (ci, fs)) ∧ hn_cl[ci]? = some r ∧ r.1 = hn_R2 := by
  rintro a w ⟨m, p0, p1, p2, rfl, rfl, hp⟩
  exact ⟨0, _, 2, _, _, rfl, rfl, rfl, rfl⟩
set_option maxRecDepth 100000 in
set_option maxHeartbeats 4000000 in
theorem km2_begins {l : Launch} {E : (Nat → Prop) → State → Prop} {D : va_G} {ou : Nat → Nat} {ca : Nat → ClassId} (hE : hg_E E ou) : hg_Met l E D ou ca hy2_begins prog_4_method_13_code 6 (some .boolean) 4 pr2_begins fm2_begins := by
  refine am_met (B := kb2_begins) (cuts := [18]) (nt := 5) (by decide +kernel) rfl rfl (hg_tys_ok ca) ?_ (by decide) rl2_begins ?_ rn2_begins
  · exact fun t ht => List.mem_cons_of_mem _ (hg_arr t ht)
  · intro a w hp ad p e R s m args below meth c hR X hEs hnm
    have hR1 : 4 ≤ R.frames ∧ 160 ≤ R.locals := by rw [hR]; exact ⟨Nat.le_refl _, Nat.le_refl _⟩
    have hN := hE.2.1 _ _ hEs
    refine ⟨kd2_begins_ok, fun index ci fi mode hq => kf2_ok X.2.2.2.2.1 hN.1 (index, ci, fi, mode) (am_as_mem hq), fun index ci fs hq => (am_no hq).elim, fun x v hq => (am_no hq).elim, ?_, fun o t n f hq => (am_no hq).elim, rfl, rfl, by rw [hR]; exact Nat.le_refl _, by rw [hR]; exact Nat.le_refl _⟩
    intro pc sel n0 pre0 f0 hq
    have hz : ∀ q ∈ ki2_begins, am_CK p l e R s m args below meth c D hn_cl (va_A (am_w ad ou ca w) s.heap.size) ou ca 6 q.1 q.2.2.1 q.2.2.2.1 q.2.2.2.2 := by
      refine am_allc (am_ck_VS (n := 0) X hEs hE (kmJ_length hE) (hg_good (gw_mem 367 (by decide +kernel))) rfl (List.mem_cons_of_mem _ (gw_mem 83 (by decide +kernel))) (List.mem_cons_of_mem _ (gw_mem 889 (by decide +kernel))) (List.mem_cons_of_mem _ (gw_mem 365 (by decide +kernel))) (List.mem_cons_of_mem _ (gw_mem 366 (by decide +kernel))) rfl paJ_length (by decide +kernel) ⟨Nat.le_trans (by decide) hR1.1, Nat.le_trans (by decide) hR1.2⟩ (kd2_begins_ok (2, .invokevirtual 49, 3) (List.mem_of_getElem? (i := 2) rfl))) (am_allc (am_ck_V (n := 2) X hEs hE.1 (km2_at hE) (hg_good (gw_mem 809 (by decide +kernel))) rfl (List.mem_cons_of_mem _ (gw_mem 71 (by decide +kernel))) (List.mem_cons_of_mem _ (gw_mem 890 (by decide +kernel))) (List.mem_cons_of_mem _ (gw_mem 807 (by decide +kernel))) (List.mem_cons_of_mem _ (gw_mem 808 (by decide +kernel))) pa2_at (by decide +kernel) ⟨Nat.le_trans (by decide) hR1.1, Nat.le_trans (by decide) hR1.2⟩ (kd2_begins_ok (33, .invokevirtual 54, 3) (List.mem_of_getElem? (i := 18) rfl))) (am_allc (am_ck_S (n := 1) X hEs hE.1 (km4_small hE) (hg_good (gw_mem 893 (by decide +kernel))) rfl (List.mem_cons_of_mem _ (gw_mem 77 (by decide +kernel))) (List.mem_cons_of_mem _ (gw_mem 891 (by decide +kernel))) (List.mem_cons_of_mem _ (gw_mem 892 (by decide +kernel))) (by decide +kernel) ⟨Nat.le_trans (by decide) hR1.1, Nat.le_trans (by decide) hR1.2⟩ (kd2_begins_ok (36, .invokestatic 57, 3) (List.mem_of_getElem? (i := 19) rfl))) (am_allc (am_ck_VS (n := 1) X hEs hE (kmJ_charAt hE) (hg_good (gw_mem 378 (by decide +kernel))) rfl (List.mem_cons_of_mem _ (gw_mem 83 (by decide +kernel))) (List.mem_cons_of_mem _ (gw_mem 894 (by decide +kernel))) (List.mem_cons_of_mem _ (gw_mem 376 (by decide +kernel))) (List.mem_cons_of_mem _ (gw_mem 377 (by decide +kernel))) rfl paJ_charAt (by decide +kernel) ⟨Nat.le_trans (by decide) hR1.1, Nat.le_trans (by decide) hR1.2⟩ (kd2_begins_ok (42, .invokevirtual 63, 3) (List.mem_of_getElem? (i := 22) rfl))) (am_all0))))
    exact hz _ (am_as_mem hq)
noncomputable def ki5_take : List (Nat × Option (List Nat) × Nat × (List am_V → List am_C → Prop) × am_M) := []
noncomputable def kb5_take : am_B := (kd5_take, am_as kf5, hn_ty, fun _ => none, fun _ => none, am_as ki5_take, fun _ => none, 5, 5, (some .int))
noncomputable def fn5_take_c98 (x : qt5) (v4 : Int32) : Int32 × qt5 := (v4, (qu5_count x ((qg5_count x) + (1 : Int32))))
def wp5_take_c98 (x : qt5) (v4 : Int32) : Prop := True
set_option maxRecDepth 100000 in
set_option maxHeartbeats 4000000 in
theorem rc5_take_98 (x : qt5) (v4 : Int32) (j1 : Option am_V) (j2 : Option am_V) (j3 : Option am_V) (g1 : am_loO 8 j1 = true) (g2 : am_loO 8 j2 = true) (g3 : am_loO 8 j3 = true) (hp : wp5_take_c98 x v4) : am_lf (am_mk kb5_take 0 0 8) [20, 39, 52, 62, 75, 88, 98] (98, [some (.inr (.inl 0)), j1, j2, j3, some (.inl v4)], [], (kw_S x), 0, 0) = some (some (.inl ((fn5_take_c98 x v4).1)), (kw_S ((fn5_take_c98 x v4).2))) := by
  unfold wp5_take_c98 at hp
  refine am_lf_eq ?_
  generalize am_lf (am_mk kb5_take 0 0 8) [20, 39, 52, 62, 75, 88, 98] = kt
  refine am_sp (w' := (kw_S (qu5_count x ((qg5_count x) + (1 : Int32))))) (kp_S_0_count x ((qg5_count x) + (1 : Int32))) ?_
  have e : fn5_take_c98 x v4 = (v4, (qu5_count x ((qg5_count x) + (1 : Int32)))) := by
    rw [fn5_take_c98]
  rw [e] <;> rfl
noncomputable def fn5_take_c88 (x : qt5) (v4 : Int32) : Int32 × qt5 := (fn5_take_c98 (qa5_codes x (((qg5_count x)).toNatClampNeg) (-1 : Int32)) v4)
def wp5_take_c88 (x : qt5) (v4 : Int32) : Prop := (am_inb (qg5_count x) 240 = true ∧ (wp5_take_c98 (qa5_codes x (((qg5_count x)).toNatClampNeg) (-1 : Int32)) v4))
set_option maxRecDepth 100000 in
set_option maxHeartbeats 4000000 in
theorem rc5_take_88 (x : qt5) (v4 : Int32) (j1 : Option am_V) (j2 : Option am_V) (j3 : Option am_V) (g1 : am_loO 8 j1 = true) (g2 : am_loO 8 j2 = true) (g3 : am_loO 8 j3 = true) (hp : wp5_take_c88 x v4) : am_lf (am_mk kb5_take 0 0 8) [20, 39, 52, 62, 75, 88, 98] (88, [some (.inr (.inl 0)), j1, j2, j3, some (.inl v4)], [], (kw_S x), 0, 0) = some (some (.inl ((fn5_take_c88 x v4).1)), (kw_S ((fn5_take_c88 x v4).2))) := by
  unfold wp5_take_c88 at hp
  have i98 := @rc5_take_98
  refine am_lf_eq ?_
  generalize am_lf (am_mk kb5_take 0 0 8) [20, 39, 52, 62, 75, 88, 98] = kt at i98 ⊢
  refine am_ci (c := am_inb (qg5_count x) 240 = true) hp.1 ?_
  refine am_sp (w' := (kw_S (qa5_codes x (((qg5_count x)).toNatClampNeg) (-1 : Int32)))) (kp_S_0_codes x (((qg5_count x)).toNatClampNeg) (-1 : Int32)) ?_
  have e : fn5_take_c88 x v4 = fn5_take_c98 (qa5_codes x (((qg5_count x)).toNatClampNeg) (-1 : Int32)) v4 := by
    rw [fn5_take_c88]
  rw [e]
  exact i98 (qa5_codes x (((qg5_count x)).toNatClampNeg) (-1 : Int32)) v4 _ _ _ g1 g2 g3 hp.2
noncomputable def fn5_take_c75 (x : qt5) (v4 : Int32) : Int32 × qt5 := (fn5_take_c88 (qa5_closes x (((qg5_count x)).toNatClampNeg) (qg5_count x)) v4)
def wp5_take_c75 (x : qt5) (v4 : Int32) : Prop := (am_inb (qg5_count x) 240 = true ∧ (wp5_take_c88 (qa5_closes x (((qg5_count x)).toNatClampNeg) (qg5_count x)) v4))
set_option maxRecDepth 100000 in
set_option maxHeartbeats 4000000 in
theorem rc5_take_75 (x : qt5) (v4 : Int32) (j1 : Option am_V) (j2 : Option am_V) (j3 : Option am_V) (g1 : am_loO 8 j1 = true) (g2 : am_loO 8 j2 = true) (g3 : am_loO 8 j3 = true) (hp : wp5_take_c75 x v4) : am_lf (am_mk kb5_take 0 0 8) [20, 39, 52, 62, 75, 88, 98] (75, [some (.inr (.inl 0)), j1, j2, j3, some (.inl v4)], [], (kw_S x), 0, 0) = some (some (.inl ((fn5_take_c75 x v4).1)), (kw_S ((fn5_take_c75 x v4).2))) := by
  unfold wp5_take_c75 at hp
  have i88 := @rc5_take_88
  refine am_lf_eq ?_
  generalize am_lf (am_mk kb5_take 0 0 8) [20, 39, 52, 62, 75, 88, 98] = kt at i88 ⊢
  refine am_ci (c := am_inb (qg5_count x) 240 = true) hp.1 ?_
  refine am_sp (w' := (kw_S (qa5_closes x (((qg5_count x)).toNatClampNeg) (qg5_count x)))) (kp_S_0_closes x (((qg5_count x)).toNatClampNeg) (qg5_count x)) ?_
  have e : fn5_take_c75 x v4 = fn5_take_c88 (qa5_closes x (((qg5_count x)).toNatClampNeg) (qg5_count x)) v4 := by
    rw [fn5_take_c75]
  rw [e]
  exact i88 (qa5_closes x (((qg5_count x)).toNatClampNeg) (qg5_count x)) v4 _ _ _ g1 g2 g3 hp.2
noncomputable def fn5_take_c62 (x : qt5) (v4 : Int32) : Int32 × qt5 := (fn5_take_c75 (qa5_turns x (((qg5_count x)).toNatClampNeg) (qg5_count x)) v4)
def wp5_take_c62 (x : qt5) (v4 : Int32) : Prop := (am_inb (qg5_count x) 240 = true ∧ (wp5_take_c75 (qa5_turns x (((qg5_count x)).toNatClampNeg) (qg5_count x)) v4))
set_option maxRecDepth 100000 in
set_option maxHeartbeats 4000000 in
theorem rc5_take_62 (x : qt5) (v4 : Int32) (j1 : Option am_V) (j2 : Option am_V) (j3 : Option am_V) (g1 : am_loO 8 j1 = true) (g2 : am_loO 8 j2 = true) (g3 : am_loO 8 j3 = true) (hp : wp5_take_c62 x v4) : am_lf (am_mk kb5_take 0 0 8) [20, 39, 52, 62, 75, 88, 98] (62, [some (.inr (.inl 0)), j1, j2, j3, some (.inl v4)], [], (kw_S x), 0, 0) = some (some (.inl ((fn5_take_c62 x v4).1)), (kw_S ((fn5_take_c62 x v4).2))) := by
  unfold wp5_take_c62 at hp
  have i75 := @rc5_take_75
  refine am_lf_eq ?_
  generalize am_lf (am_mk kb5_take 0 0 8) [20, 39, 52, 62, 75, 88, 98] = kt at i75 ⊢
  refine am_ci (c := am_inb (qg5_count x) 240 = true) hp.1 ?_
  refine am_sp (w' := (kw_S (qa5_turns x (((qg5_count x)).toNatClampNeg) (qg5_count x)))) (kp_S_0_turns x (((qg5_count x)).toNatClampNeg) (qg5_count x)) ?_
  have e : fn5_take_c62 x v4 = fn5_take_c75 (qa5_turns x (((qg5_count x)).toNatClampNeg) (qg5_count x)) v4 := by
    rw [fn5_take_c62]
  rw [e]
  exact i75 (qa5_turns x (((qg5_count x)).toNatClampNeg) (qg5_count x)) v4 _ _ _ g1 g2 g3 hp.2
noncomputable def fn5_take_c52 (x : qt5) (v3 : Int32) (v4 : Int32) : Int32 × qt5 := (fn5_take_c62 (qa5_places x (((qg5_count x)).toNatClampNeg) v3) v4)
def wp5_take_c52 (x : qt5) (v3 : Int32) (v4 : Int32) : Prop := (am_inb (qg5_count x) 240 = true ∧ (wp5_take_c62 (qa5_places x (((qg5_count x)).toNatClampNeg) v3) v4))
set_option maxRecDepth 100000 in
set_option maxHeartbeats 4000000 in
theorem rc5_take_52 (x : qt5) (v3 : Int32) (v4 : Int32) (j1 : Option am_V) (j2 : Option am_V) (g1 : am_loO 8 j1 = true) (g2 : am_loO 8 j2 = true) (hp : wp5_take_c52 x v3 v4) : am_lf (am_mk kb5_take 0 0 8) [20, 39, 52, 62, 75, 88, 98] (52, [some (.inr (.inl 0)), j1, j2, some (.inl v3), some (.inl v4)], [], (kw_S x), 0, 0) = some (some (.inl ((fn5_take_c52 x v3 v4).1)), (kw_S ((fn5_take_c52 x v3 v4).2))) := by
  unfold wp5_take_c52 at hp
  have i62 := @rc5_take_62
  refine am_lf_eq ?_
  generalize am_lf (am_mk kb5_take 0 0 8) [20, 39, 52, 62, 75, 88, 98] = kt at i62 ⊢
  refine am_ci (c := am_inb (qg5_count x) 240 = true) hp.1 ?_
  refine am_sp (w' := (kw_S (qa5_places x (((qg5_count x)).toNatClampNeg) v3))) (kp_S_0_places x (((qg5_count x)).toNatClampNeg) v3) ?_
  have e : fn5_take_c52 x v3 v4 = fn5_take_c62 (qa5_places x (((qg5_count x)).toNatClampNeg) v3) v4 := by
    rw [fn5_take_c52]
  rw [e]
  exact i62 (qa5_places x (((qg5_count x)).toNatClampNeg) v3) v4 _ _ _ g1 g2 rfl hp.2
noncomputable def fn5_take_c39 (x : qt5) (v2 : Int32) (v3 : Int32) (v4 : Int32) : Int32 × qt5 := (fn5_take_c52 (qa5_variables x (((qg5_count x)).toNatClampNeg) (v2 - (97 : Int32))) v3 v4)
def wp5_take_c39 (x : qt5) (v2 : Int32) (v3 : Int32) (v4 : Int32) : Prop := (am_inb (qg5_count x) 240 = true ∧ (wp5_take_c52 (qa5_variables x (((qg5_count x)).toNatClampNeg) (v2 - (97 : Int32))) v3 v4))
set_option maxRecDepth 100000 in
set_option maxHeartbeats 4000000 in
theorem rc5_take_39 (x : qt5) (v2 : Int32) (v3 : Int32) (v4 : Int32) (j1 : Option am_V) (g1 : am_loO 8 j1 = true) (hp : wp5_take_c39 x v2 v3 v4) : am_lf (am_mk kb5_take 0 0 8) [20, 39, 52, 62, 75, 88, 98] (39, [some (.inr (.inl 0)), j1, some (.inl v2), some (.inl v3), some (.inl v4)], [], (kw_S x), 0, 0) = some (some (.inl ((fn5_take_c39 x v2 v3 v4).1)), (kw_S ((fn5_take_c39 x v2 v3 v4).2))) := by
  unfold wp5_take_c39 at hp
  have i52 := @rc5_take_52
  refine am_lf_eq ?_
  generalize am_lf (am_mk kb5_take 0 0 8) [20, 39, 52, 62, 75, 88, 98] = kt at i52 ⊢
  refine am_ci (c := am_inb (qg5_count x) 240 = true) hp.1 ?_
  refine am_sp (w' := (kw_S (qa5_variables x (((qg5_count x)).toNatClampNeg) (v2 - (97 : Int32))))) (kp_S_0_variables x (((qg5_count x)).toNatClampNeg) (v2 - (97 : Int32))) ?_
  have e : fn5_take_c39 x v2 v3 v4 = fn5_take_c52 (qa5_variables x (((qg5_count x)).toNatClampNeg) (v2 - (97 : Int32))) v3 v4 := by
    rw [fn5_take_c39]
  rw [e]
  exact i52 (qa5_variables x (((qg5_count x)).toNatClampNeg) (v2 - (97 : Int32))) v3 v4 _ _ g1 rfl hp.2
noncomputable def fn5_take_c20 (x : qt5) (v1 : Int32) (v2 : Int32) (v3 : Int32) (v4 : Int32) : Int32 × qt5 := (if v1 = (1 : Int32) then (fn5_take_c39 (qa5_signs x (((qg5_count x)).toNatClampNeg) (vp_nar .char v2)) v2 v3 v4) else (fn5_take_c39 (qa5_signs x (((qg5_count x)).toNatClampNeg) (vp_nar .char (0 : Int32))) v2 v3 v4))
def wp5_take_c20 (x : qt5) (v1 : Int32) (v2 : Int32) (v3 : Int32) (v4 : Int32) : Prop := ((v1 = (1 : Int32) → (am_inb (qg5_count x) 240 = true ∧ (wp5_take_c39 (qa5_signs x (((qg5_count x)).toNatClampNeg) (vp_nar .char v2)) v2 v3 v4))) ∧ (¬ v1 = (1 : Int32) → (am_inb (qg5_count x) 240 = true ∧ (wp5_take_c39 (qa5_signs x (((qg5_count x)).toNatClampNeg) (vp_nar .char (0 : Int32))) v2 v3 v4))))
set_option maxRecDepth 100000 in
set_option maxHeartbeats 4000000 in
theorem rc5_take_20 (x : qt5) (v1 : Int32) (v2 : Int32) (v3 : Int32) (v4 : Int32) (hp : wp5_take_c20 x v1 v2 v3 v4) : am_lf (am_mk kb5_take 0 0 8) [20, 39, 52, 62, 75, 88, 98] (20, [some (.inr (.inl 0)), some (.inl v1), some (.inl v2), some (.inl v3), some (.inl v4)], [], (kw_S x), 0, 0) = some (some (.inl ((fn5_take_c20 x v1 v2 v3 v4).1)), (kw_S ((fn5_take_c20 x v1 v2 v3 v4).2))) := by
  unfold wp5_take_c20 at hp
  have i39 := @rc5_take_39
  refine am_lf_eq ?_
  generalize am_lf (am_mk kb5_take 0 0 8) [20, 39, 52, 62, 75, 88, 98] = kt at i39 ⊢
  refine am_if (c := v1 = (1 : Int32)) (fun h1 => ?_) (fun h1 => ?_)
  · have q1 := hp.1 h1
    refine am_ci (c := am_inb (qg5_count x) 240 = true) q1.1 ?_
    refine am_sp (w' := (kw_S (qa5_signs x (((qg5_count x)).toNatClampNeg) (vp_nar .char v2)))) (kp_S_0_signs x (((qg5_count x)).toNatClampNeg) (vp_nar .char v2)) ?_
    have e : fn5_take_c20 x v1 v2 v3 v4 = fn5_take_c39 (qa5_signs x (((qg5_count x)).toNatClampNeg) (vp_nar .char v2)) v2 v3 v4 := by
      rw [fn5_take_c20]
      rw [if_pos h1]
    rw [e]
    exact i39 (qa5_signs x (((qg5_count x)).toNatClampNeg) (vp_nar .char v2)) v2 v3 v4 _ rfl q1.2
  · have q1 := hp.2 h1
    refine am_ci (c := am_inb (qg5_count x) 240 = true) q1.1 ?_
    refine am_sp (w' := (kw_S (qa5_signs x (((qg5_count x)).toNatClampNeg) (vp_nar .char (0 : Int32))))) (kp_S_0_signs x (((qg5_count x)).toNatClampNeg) (vp_nar .char (0 : Int32))) ?_
    have e : fn5_take_c20 x v1 v2 v3 v4 = fn5_take_c39 (qa5_signs x (((qg5_count x)).toNatClampNeg) (vp_nar .char (0 : Int32))) v2 v3 v4 := by
      rw [fn5_take_c20]
      rw [if_neg h1]
    rw [e]
    exact i39 (qa5_signs x (((qg5_count x)).toNatClampNeg) (vp_nar .char (0 : Int32))) v2 v3 v4 _ rfl q1.2
noncomputable def fn5_take (x : qt5) (p0 : Int32) (p1 : Int32) (p2 : Int32) (p3 : Int32) : Int32 × qt5 := Classical.choose (⟨_, rfl⟩ : ∃ z : Int32 × qt5, z = (if (240 : Int32) ≤ (qg5_count x) then (p3, x) else (fn5_take_c20 (qa5_kinds x (((qg5_count x)).toNatClampNeg) p0) p0 p1 p2 p3)))
theorem fq5_take (x : qt5) (p0 : Int32) (p1 : Int32) (p2 : Int32) (p3 : Int32) : fn5_take x p0 p1 p2 p3 = (if (240 : Int32) ≤ (qg5_count x) then (p3, x) else (fn5_take_c20 (qa5_kinds x (((qg5_count x)).toNatClampNeg) p0) p0 p1 p2 p3)) := Classical.choose_spec (⟨_, rfl⟩ : ∃ z : Int32 × qt5, z = (if (240 : Int32) ≤ (qg5_count x) then (p3, x) else (fn5_take_c20 (qa5_kinds x (((qg5_count x)).toNatClampNeg) p0) p0 p1 p2 p3)))
def wp5_take (x : qt5) (p0 : Int32) (p1 : Int32) (p2 : Int32) (p3 : Int32) : Prop := (((240 : Int32) ≤ (qg5_count x) → True) ∧ (¬ (240 : Int32) ≤ (qg5_count x) → (am_inb (qg5_count x) 240 = true ∧ (wp5_take_c20 (qa5_kinds x (((qg5_count x)).toNatClampNeg) p0) p0 p1 p2 p3))))
set_option maxRecDepth 100000 in
set_option maxHeartbeats 4000000 in
theorem re5_take (x : qt5) (p0 : Int32) (p1 : Int32) (p2 : Int32) (p3 : Int32) (hp : wp5_take x p0 p1 p2 p3) : am_lf (am_mk kb5_take 0 0 8) [20, 39, 52, 62, 75, 88, 98] (0, am_L0 [.inr (.inl 0), .inl p0, .inl p1, .inl p2, .inl p3] 5, [], (kw_S x), 0, 0) = some (some (.inl ((fn5_take x p0 p1 p2 p3).1)), (kw_S ((fn5_take x p0 p1 p2 p3).2))) := by
  unfold wp5_take at hp
  have i20 := @rc5_take_20
  refine am_lf_eq ?_
  generalize am_lf (am_mk kb5_take 0 0 8) [20, 39, 52, 62, 75, 88, 98] = kt at i20 ⊢
  refine am_if (c := (240 : Int32) ≤ (qg5_count x)) (fun h1 => ?_) (fun h1 => ?_)
  · have e : fn5_take x p0 p1 p2 p3 = (p3, x) := by
      rw [fq5_take]
      rw [if_pos h1]
    rw [e] <;> rfl
  · have q1 := hp.2 h1
    refine am_ci (c := am_inb (qg5_count x) 240 = true) q1.1 ?_
    refine am_sp (w' := (kw_S (qa5_kinds x (((qg5_count x)).toNatClampNeg) p0))) (kp_S_0_kinds x (((qg5_count x)).toNatClampNeg) p0) ?_
    have e : fn5_take x p0 p1 p2 p3 = fn5_take_c20 (qa5_kinds x (((qg5_count x)).toNatClampNeg) p0) p0 p1 p2 p3 := by
      rw [fq5_take]
      rw [if_neg h1]
    rw [e]
    exact i20 (qa5_kinds x (((qg5_count x)).toNatClampNeg) p0) p0 p1 p2 p3  q1.2
abbrev pr5_take : List am_V → List am_C → Prop := fun a w => ∃ (x : qt5) (p0 : Int32) (p1 : Int32) (p2 : Int32) (p3 : Int32), a = [.inr (.inl 0), .inl p0, .inl p1, .inl p2, .inl p3] ∧ w = (kw_S x) ∧ wp5_take x p0 p1 p2 p3
noncomputable def fm5_take : am_M := fun a w => (fun (z : Int32 × qt5) => (some (.inl (z.1)), (kw_S (z.2)), 0, 0)) (fn5_take (qs5 w 0) (am_i (am_an a 1)) (am_i (am_an a 2)) (am_i (am_an a 3)) (am_i (am_an a 4)))
theorem fe5_take (x : qt5) (p0 : Int32) (p1 : Int32) (p2 : Int32) (p3 : Int32) : fm5_take [.inr (.inl 0), .inl p0, .inl p1, .inl p2, .inl p3] (kw_S x) = (some (.inl ((fn5_take x p0 p1 p2 p3).1)), (kw_S ((fn5_take x p0 p1 p2 p3).2)), 0, 0) := rfl
set_option maxRecDepth 100000 in
set_option maxHeartbeats 4000000 in
theorem rn5_take : ∀ (a : List am_V) (w : List am_C), pr5_take a w → ∃ nq, am_ev (am_mk kb5_take (fm5_take a w).2.2.1 (fm5_take a w).2.2.2 w.length) [20, 39, 52, 62, 75, 88, 98] nq (0, am_L0 a 5, [], w, 0, 0) = some ((fm5_take a w).1, (fm5_take a w).2.1) := by
  rintro a w ⟨x, p0, p1, p2, p3, rfl, rfl, hp⟩
  rw [fe5_take x p0 p1 p2 p3]
  exact am_lf_ev (re5_take x p0 p1 p2 p3 hp)
theorem rl5_take : ∀ (a : List am_V) (w : List am_C), pr5_take a w → a.length ≤ 5 := by
  rintro a w ⟨x, p0, p1, p2, p3, rfl, rfl, hp⟩
  exact Nat.le_of_ble_eq_true rfl
theorem pa5_take : ∀ a w, pr5_take a w → ∃ q a' ci fs r, a = .inr (.inl q) :: a' ∧ w[q]? = some (.inr (ci, fs)) ∧ hn_cl[ci]? = some r ∧ r.1 = hn_R5 := by
  rintro a w ⟨x, p0, p1, p2, p3, rfl, rfl, hp⟩
  exact ⟨0, _, 5, _, _, rfl, rfl, rfl, rfl⟩
set_option maxRecDepth 100000 in
set_option maxHeartbeats 4000000 in
theorem km5_take {l : Launch} {E : (Nat → Prop) → State → Prop} {D : va_G} {ou : Nat → Nat} {ca : Nat → ClassId} (hE : hg_E E ou) : hg_Met l E D ou ca hy5_take prog_7_method_4_code 5 (some .int) 0 pr5_take fm5_take := by
  refine am_met (B := kb5_take) (cuts := [20, 39, 52, 62, 75, 88, 98]) (nt := 5) (by decide +kernel) rfl rfl (hg_tys_ok ca) ?_ (by decide) rl5_take ?_ rn5_take
  · exact fun t ht => List.mem_cons_of_mem _ (hg_arr t ht)
  · intro a w hp ad p e R s m args below meth c hR X hEs hnm
    have hR1 : 0 ≤ R.frames ∧ 0 ≤ R.locals := by rw [hR]; exact ⟨Nat.le_refl _, Nat.le_refl _⟩
    have hN := hE.2.1 _ _ hEs
    refine ⟨kd5_take_ok, fun index ci fi mode hq => kf5_ok X.2.2.2.2.1 hN.1 (index, ci, fi, mode) (am_as_mem hq), fun index ci fs hq => (am_no hq).elim, fun x v hq => (am_no hq).elim, ?_, fun o t n f hq => (am_no hq).elim, rfl, rfl, by rw [hR]; exact Nat.le_refl _, by rw [hR]; exact Nat.le_refl _⟩
    intro pc sel n0 pre0 f0 hq
    exact (am_no hq).elim
