noncomputable def ki4_isWritable : List (Nat × Option (List Nat) × Nat × (List am_V → List am_C → Prop) × am_M) := []
noncomputable def kb4_isWritable : am_B := (kd4_isWritable, am_as kf4, hn_ty, fun _ => none, fun _ => none, am_as ki4_isWritable, fun _ => none, 5, 1, (some .boolean))
noncomputable def fn4_isWritable (p0 : Int32) : Int32 := Classical.choose (⟨_, rfl⟩ : ∃ z : Int32, z = (if p0 = (10 : Int32) then (1 : Int32) else (if p0 < (32 : Int32) then (0 : Int32) else (if (126 : Int32) < p0 then (0 : Int32) else (1 : Int32)))))
theorem fq4_isWritable (p0 : Int32) : fn4_isWritable p0 = (if p0 = (10 : Int32) then (1 : Int32) else (if p0 < (32 : Int32) then (0 : Int32) else (if (126 : Int32) < p0 then (0 : Int32) else (1 : Int32)))) := Classical.choose_spec (⟨_, rfl⟩ : ∃ z : Int32, z = (if p0 = (10 : Int32) then (1 : Int32) else (if p0 < (32 : Int32) then (0 : Int32) else (if (126 : Int32) < p0 then (0 : Int32) else (1 : Int32)))))
def wp4_isWritable (p0 : Int32) : Prop := True
set_option maxRecDepth 100000 in
set_option maxHeartbeats 4000000 in
theorem re4_isWritable (p0 : Int32) (hp : wp4_isWritable p0) : am_lf (am_mk kb4_isWritable 0 0 0) [] (0, am_L0 [.inl p0] 1, [], [], 0, 0) = some (some (.inl (fn4_isWritable p0)), []) := by
  unfold wp4_isWritable at hp
  refine am_lf_eq ?_
  generalize am_lf (am_mk kb4_isWritable 0 0 0) [] = kt
  refine am_if (c := p0 = (10 : Int32)) (fun h1 => ?_) (fun h1 => ?_)
  · have e : fn4_isWritable p0 = (1 : Int32) := by
      rw [fq4_isWritable]
      rw [if_pos h1]
    rw [e] <;> rfl
  · refine am_if (c := p0 < (32 : Int32)) (fun h2 => ?_) (fun h2 => ?_)
    · have e : fn4_isWritable p0 = (0 : Int32) := by
        rw [fq4_isWritable]
        rw [if_neg h1, if_pos h2]
      rw [e] <;> rfl
    · refine am_if (c := (126 : Int32) < p0) (fun h3 => ?_) (fun h3 => ?_)
      · have e : fn4_isWritable p0 = (0 : Int32) := by
          rw [fq4_isWritable]
          rw [if_neg h1, if_neg h2, if_pos h3]
        rw [e] <;> rfl
      · have e : fn4_isWritable p0 = (1 : Int32) := by
          rw [fq4_isWritable]
          rw [if_neg h1, if_neg h2, if_neg h3]
        rw [e] <;> rfl
abbrev pr4_isWritable : List am_V → List am_C → Prop := fun a w => ∃ (p0 : Int32), a = [.inl p0] ∧ w = [] ∧ wp4_isWritable p0
noncomputable def fm4_isWritable : am_M := fun a w => (fun (z : Int32) => (some (.inl z), [], 0, 0)) (fn4_isWritable (am_i (am_an a 0)))
theorem fe4_isWritable (p0 : Int32) : fm4_isWritable [.inl p0] [] = (some (.inl (fn4_isWritable p0)), [], 0, 0) := rfl
set_option maxRecDepth 100000 in
set_option maxHeartbeats 4000000 in
theorem rn4_isWritable : ∀ (a : List am_V) (w : List am_C), pr4_isWritable a w → ∃ nq, am_ev (am_mk kb4_isWritable (fm4_isWritable a w).2.2.1 (fm4_isWritable a w).2.2.2 w.length) [] nq (0, am_L0 a 1, [], w, 0, 0) = some ((fm4_isWritable a w).1, (fm4_isWritable a w).2.1) := by
  rintro a w ⟨p0, rfl, rfl, hp⟩
  rw [fe4_isWritable p0]
  exact am_lf_ev (re4_isWritable p0 hp)
theorem rl4_isWritable : ∀ (a : List am_V) (w : List am_C), pr4_isWritable a w → a.length ≤ 1 := by
  rintro a w ⟨p0, rfl, rfl, hp⟩
  exact Nat.le_of_ble_eq_true rfl
set_option maxRecDepth 100000 in
set_option maxHeartbeats 4000000 in
theorem km4_isWritable {l : Launch} {E : (Nat → Prop) → State → Prop} {D : va_G} {ou : Nat → Nat} {ca : Nat → ClassId} (hE : hg_E E ou) : hg_Met l E D ou ca hy4_isWritable prog_6_method_2_code 1 (some .boolean) 0 pr4_isWritable fm4_isWritable := by
  refine am_met (B := kb4_isWritable) (cuts := []) (nt := 5) (by decide +kernel) rfl rfl (hg_tys_ok ca) ?_ (by decide) rl4_isWritable ?_ rn4_isWritable
  · exact fun t ht => List.mem_cons_of_mem _ (hg_arr t ht)
  · intro a w hp ad p e R s m args below meth c hR X hEs hnm
    have hR1 : 0 ≤ R.frames ∧ 0 ≤ R.locals := by rw [hR]; exact ⟨Nat.le_refl _, Nat.le_refl _⟩
    have hN := hE.2.1 _ _ hEs
    refine ⟨kd4_isWritable_ok, fun index ci fi mode hq => kf4_ok X.2.2.2.2.1 hN.1 (index, ci, fi, mode) (am_as_mem hq), fun index ci fs hq => (am_no hq).elim, fun x v hq => (am_no hq).elim, ?_, fun o t n f hq => (am_no hq).elim, rfl, rfl, by rw [hR]; exact Nat.le_refl _, by rw [hR]; exact Nat.le_refl _⟩
    intro pc sel n0 pre0 f0 hq
    exact (am_no hq).elim
noncomputable def ki4_isBlank : List (Nat × Option (List Nat) × Nat × (List am_V → List am_C → Prop) × am_M) := []
noncomputable def kb4_isBlank : am_B := (kd4_isBlank, am_as kf4, hn_ty, fun _ => none, fun _ => none, am_as ki4_isBlank, fun _ => none, 5, 1, (some .boolean))
noncomputable def fn4_isBlank (p0 : Int32) : Int32 := Classical.choose (⟨_, rfl⟩ : ∃ z : Int32, z = (if p0 = (32 : Int32) then (1 : Int32) else (if p0 = (10 : Int32) then (1 : Int32) else (0 : Int32))))
theorem fq4_isBlank (p0 : Int32) : fn4_isBlank p0 = (if p0 = (32 : Int32) then (1 : Int32) else (if p0 = (10 : Int32) then (1 : Int32) else (0 : Int32))) := Classical.choose_spec (⟨_, rfl⟩ : ∃ z : Int32, z = (if p0 = (32 : Int32) then (1 : Int32) else (if p0 = (10 : Int32) then (1 : Int32) else (0 : Int32))))
def wp4_isBlank (p0 : Int32) : Prop := True
set_option maxRecDepth 100000 in
set_option maxHeartbeats 4000000 in
theorem re4_isBlank (p0 : Int32) (hp : wp4_isBlank p0) : am_lf (am_mk kb4_isBlank 0 0 0) [] (0, am_L0 [.inl p0] 1, [], [], 0, 0) = some (some (.inl (fn4_isBlank p0)), []) := by
  unfold wp4_isBlank at hp
  refine am_lf_eq ?_
  generalize am_lf (am_mk kb4_isBlank 0 0 0) [] = kt
  refine am_if (c := p0 = (32 : Int32)) (fun h1 => ?_) (fun h1 => ?_)
  · have e : fn4_isBlank p0 = (1 : Int32) := by
      rw [fq4_isBlank]
      rw [if_pos h1]
    rw [e] <;> rfl
  · refine am_if (c := p0 = (10 : Int32)) (fun h2 => ?_) (fun h2 => ?_)
    · have e : fn4_isBlank p0 = (1 : Int32) := by
        rw [fq4_isBlank]
        rw [if_neg h1, if_pos h2]
      rw [e] <;> rfl
    · have e : fn4_isBlank p0 = (0 : Int32) := by
        rw [fq4_isBlank]
        rw [if_neg h1, if_neg h2]
      rw [e] <;> rfl
abbrev pr4_isBlank : List am_V → List am_C → Prop := fun a w => ∃ (p0 : Int32), a = [.inl p0] ∧ w = [] ∧ wp4_isBlank p0
noncomputable def fm4_isBlank : am_M := fun a w => (fun (z : Int32) => (some (.inl z), [], 0, 0)) (fn4_isBlank (am_i (am_an a 0)))
theorem fe4_isBlank (p0 : Int32) : fm4_isBlank [.inl p0] [] = (some (.inl (fn4_isBlank p0)), [], 0, 0) := rfl
set_option maxRecDepth 100000 in
set_option maxHeartbeats 4000000 in
theorem rn4_isBlank : ∀ (a : List am_V) (w : List am_C), pr4_isBlank a w → ∃ nq, am_ev (am_mk kb4_isBlank (fm4_isBlank a w).2.2.1 (fm4_isBlank a w).2.2.2 w.length) [] nq (0, am_L0 a 1, [], w, 0, 0) = some ((fm4_isBlank a w).1, (fm4_isBlank a w).2.1) := by
  rintro a w ⟨p0, rfl, rfl, hp⟩
  rw [fe4_isBlank p0]
  exact am_lf_ev (re4_isBlank p0 hp)
theorem rl4_isBlank : ∀ (a : List am_V) (w : List am_C), pr4_isBlank a w → a.length ≤ 1 := by
  rintro a w ⟨p0, rfl, rfl, hp⟩
  exact Nat.le_of_ble_eq_true rfl
set_option maxRecDepth 100000 in
set_option maxHeartbeats 4000000 in
theorem km4_isBlank {l : Launch} {E : (Nat → Prop) → State → Prop} {D : va_G} {ou : Nat → Nat} {ca : Nat → ClassId} (hE : hg_E E ou) : hg_Met l E D ou ca hy4_isBlank prog_6_method_3_code 1 (some .boolean) 0 pr4_isBlank fm4_isBlank := by
  refine am_met (B := kb4_isBlank) (cuts := []) (nt := 5) (by decide +kernel) rfl rfl (hg_tys_ok ca) ?_ (by decide) rl4_isBlank ?_ rn4_isBlank
  · exact fun t ht => List.mem_cons_of_mem _ (hg_arr t ht)
  · intro a w hp ad p e R s m args below meth c hR X hEs hnm
    have hR1 : 0 ≤ R.frames ∧ 0 ≤ R.locals := by rw [hR]; exact ⟨Nat.le_refl _, Nat.le_refl _⟩
    have hN := hE.2.1 _ _ hEs
    refine ⟨kd4_isBlank_ok, fun index ci fi mode hq => kf4_ok X.2.2.2.2.1 hN.1 (index, ci, fi, mode) (am_as_mem hq), fun index ci fs hq => (am_no hq).elim, fun x v hq => (am_no hq).elim, ?_, fun o t n f hq => (am_no hq).elim, rfl, rfl, by rw [hR]; exact Nat.le_refl _, by rw [hR]; exact Nat.le_refl _⟩
    intro pc sel n0 pre0 f0 hq
    exact (am_no hq).elim
noncomputable def ki4_isLetter : List (Nat × Option (List Nat) × Nat × (List am_V → List am_C → Prop) × am_M) := []
noncomputable def kb4_isLetter : am_B := (kd4_isLetter, am_as kf4, hn_ty, fun _ => none, fun _ => none, am_as ki4_isLetter, fun _ => none, 5, 1, (some .boolean))
noncomputable def fn4_isLetter (p0 : Int32) : Int32 := Classical.choose (⟨_, rfl⟩ : ∃ z : Int32, z = (if p0 < (97 : Int32) then (0 : Int32) else (if (122 : Int32) < p0 then (0 : Int32) else (1 : Int32))))
theorem fq4_isLetter (p0 : Int32) : fn4_isLetter p0 = (if p0 < (97 : Int32) then (0 : Int32) else (if (122 : Int32) < p0 then (0 : Int32) else (1 : Int32))) := Classical.choose_spec (⟨_, rfl⟩ : ∃ z : Int32, z = (if p0 < (97 : Int32) then (0 : Int32) else (if (122 : Int32) < p0 then (0 : Int32) else (1 : Int32))))
def wp4_isLetter (p0 : Int32) : Prop := True
set_option maxRecDepth 100000 in
set_option maxHeartbeats 4000000 in
theorem re4_isLetter (p0 : Int32) (hp : wp4_isLetter p0) : am_lf (am_mk kb4_isLetter 0 0 0) [] (0, am_L0 [.inl p0] 1, [], [], 0, 0) = some (some (.inl (fn4_isLetter p0)), []) := by
  unfold wp4_isLetter at hp
  refine am_lf_eq ?_
  generalize am_lf (am_mk kb4_isLetter 0 0 0) [] = kt
  refine am_if (c := p0 < (97 : Int32)) (fun h1 => ?_) (fun h1 => ?_)
  · have e : fn4_isLetter p0 = (0 : Int32) := by
      rw [fq4_isLetter]
      rw [if_pos h1]
    rw [e] <;> rfl
  · refine am_if (c := (122 : Int32) < p0) (fun h2 => ?_) (fun h2 => ?_)
    · have e : fn4_isLetter p0 = (0 : Int32) := by
        rw [fq4_isLetter]
        rw [if_neg h1, if_pos h2]
      rw [e] <;> rfl
    · have e : fn4_isLetter p0 = (1 : Int32) := by
        rw [fq4_isLetter]
        rw [if_neg h1, if_neg h2]
      rw [e] <;> rfl
abbrev pr4_isLetter : List am_V → List am_C → Prop := fun a w => ∃ (p0 : Int32), a = [.inl p0] ∧ w = [] ∧ wp4_isLetter p0
noncomputable def fm4_isLetter : am_M := fun a w => (fun (z : Int32) => (some (.inl z), [], 0, 0)) (fn4_isLetter (am_i (am_an a 0)))
theorem fe4_isLetter (p0 : Int32) : fm4_isLetter [.inl p0] [] = (some (.inl (fn4_isLetter p0)), [], 0, 0) := rfl
set_option maxRecDepth 100000 in
set_option maxHeartbeats 4000000 in
theorem rn4_isLetter : ∀ (a : List am_V) (w : List am_C), pr4_isLetter a w → ∃ nq, am_ev (am_mk kb4_isLetter (fm4_isLetter a w).2.2.1 (fm4_isLetter a w).2.2.2 w.length) [] nq (0, am_L0 a 1, [], w, 0, 0) = some ((fm4_isLetter a w).1, (fm4_isLetter a w).2.1) := by
  rintro a w ⟨p0, rfl, rfl, hp⟩
  rw [fe4_isLetter p0]
  exact am_lf_ev (re4_isLetter p0 hp)
theorem rl4_isLetter : ∀ (a : List am_V) (w : List am_C), pr4_isLetter a w → a.length ≤ 1 := by
  rintro a w ⟨p0, rfl, rfl, hp⟩
  exact Nat.le_of_ble_eq_true rfl
set_option maxRecDepth 100000 in
set_option maxHeartbeats 4000000 in
theorem km4_isLetter {l : Launch} {E : (Nat → Prop) → State → Prop} {D : va_G} {ou : Nat → Nat} {ca : Nat → ClassId} (hE : hg_E E ou) : hg_Met l E D ou ca hy4_isLetter prog_6_method_4_code 1 (some .boolean) 0 pr4_isLetter fm4_isLetter := by
  refine am_met (B := kb4_isLetter) (cuts := []) (nt := 5) (by decide +kernel) rfl rfl (hg_tys_ok ca) ?_ (by decide) rl4_isLetter ?_ rn4_isLetter
  · exact fun t ht => List.mem_cons_of_mem _ (hg_arr t ht)
  · intro a w hp ad p e R s m args below meth c hR X hEs hnm
    have hR1 : 0 ≤ R.frames ∧ 0 ≤ R.locals := by rw [hR]; exact ⟨Nat.le_refl _, Nat.le_refl _⟩
    have hN := hE.2.1 _ _ hEs
    refine ⟨kd4_isLetter_ok, fun index ci fi mode hq => kf4_ok X.2.2.2.2.1 hN.1 (index, ci, fi, mode) (am_as_mem hq), fun index ci fs hq => (am_no hq).elim, fun x v hq => (am_no hq).elim, ?_, fun o t n f hq => (am_no hq).elim, rfl, rfl, by rw [hR]; exact Nat.le_refl _, by rw [hR]; exact Nat.le_refl _⟩
    intro pc sel n0 pre0 f0 hq
    exact (am_no hq).elim
noncomputable def ki4_isLetterOrDigit : List (Nat × Option (List Nat) × Nat × (List am_V → List am_C → Prop) × am_M) := []
noncomputable def kb4_isLetterOrDigit : am_B := (kd4_isLetterOrDigit, am_as kf4, hn_ty, fun _ => none, fun _ => none, am_as ki4_isLetterOrDigit, fun _ => none, 5, 1, (some .boolean))
noncomputable def fn4_isLetterOrDigit_c36 : Int32 := (1 : Int32)
def wp4_isLetterOrDigit_c36 : Prop := True
set_option maxRecDepth 100000 in
set_option maxHeartbeats 4000000 in
theorem rc4_isLetterOrDigit_36 (j0 : Option am_V) (g0 : am_loO 0 j0 = true) (hp : wp4_isLetterOrDigit_c36 ) : am_lf (am_mk kb4_isLetterOrDigit 0 0 0) [12, 24, 36] (36, [j0], [], [], 0, 0) = some (some (.inl (fn4_isLetterOrDigit_c36 )), []) := by
  unfold wp4_isLetterOrDigit_c36 at hp
  refine am_lf_eq ?_
  generalize am_lf (am_mk kb4_isLetterOrDigit 0 0 0) [12, 24, 36] = kt
  have e : fn4_isLetterOrDigit_c36  = (1 : Int32) := by
    rw [fn4_isLetterOrDigit_c36]
  rw [e] <;> rfl
noncomputable def fn4_isLetterOrDigit_c24 (v0 : Int32) : Int32 := (if v0 < (48 : Int32) then (0 : Int32) else (if (57 : Int32) < v0 then (0 : Int32) else (fn4_isLetterOrDigit_c36 )))
def wp4_isLetterOrDigit_c24 (v0 : Int32) : Prop := ((v0 < (48 : Int32) → True) ∧ (¬ v0 < (48 : Int32) → (((57 : Int32) < v0 → True) ∧ (¬ (57 : Int32) < v0 → (wp4_isLetterOrDigit_c36 )))))
set_option maxRecDepth 100000 in
set_option maxHeartbeats 4000000 in
theorem rc4_isLetterOrDigit_24 (v0 : Int32) (hp : wp4_isLetterOrDigit_c24 v0) : am_lf (am_mk kb4_isLetterOrDigit 0 0 0) [12, 24, 36] (24, [some (.inl v0)], [], [], 0, 0) = some (some (.inl (fn4_isLetterOrDigit_c24 v0)), []) := by
  unfold wp4_isLetterOrDigit_c24 at hp
  have i36 := @rc4_isLetterOrDigit_36
  refine am_lf_eq ?_
  generalize am_lf (am_mk kb4_isLetterOrDigit 0 0 0) [12, 24, 36] = kt at i36 ⊢
  refine am_if (c := v0 < (48 : Int32)) (fun h1 => ?_) (fun h1 => ?_)
  · have e : fn4_isLetterOrDigit_c24 v0 = (0 : Int32) := by
      rw [fn4_isLetterOrDigit_c24]
      rw [if_pos h1]
    rw [e] <;> rfl
  · have q1 := hp.2 h1
    refine am_if (c := (57 : Int32) < v0) (fun h2 => ?_) (fun h2 => ?_)
    · have e : fn4_isLetterOrDigit_c24 v0 = (0 : Int32) := by
        rw [fn4_isLetterOrDigit_c24]
        rw [if_neg h1, if_pos h2]
      rw [e] <;> rfl
    · have q2 := q1.2 h2
      have e : fn4_isLetterOrDigit_c24 v0 = fn4_isLetterOrDigit_c36  := by
        rw [fn4_isLetterOrDigit_c24]
        rw [if_neg h1, if_neg h2]
      rw [e]
      exact i36  _ rfl q2
noncomputable def fn4_isLetterOrDigit_c12 (v0 : Int32) : Int32 := (if v0 < (65 : Int32) then (fn4_isLetterOrDigit_c24 v0) else (if v0 ≤ (90 : Int32) then (fn4_isLetterOrDigit_c36 ) else (fn4_isLetterOrDigit_c24 v0)))
def wp4_isLetterOrDigit_c12 (v0 : Int32) : Prop := ((v0 < (65 : Int32) → (wp4_isLetterOrDigit_c24 v0)) ∧ (¬ v0 < (65 : Int32) → ((v0 ≤ (90 : Int32) → (wp4_isLetterOrDigit_c36 )) ∧ (¬ v0 ≤ (90 : Int32) → (wp4_isLetterOrDigit_c24 v0)))))
set_option maxRecDepth 100000 in
set_option maxHeartbeats 4000000 in
theorem rc4_isLetterOrDigit_12 (v0 : Int32) (hp : wp4_isLetterOrDigit_c12 v0) : am_lf (am_mk kb4_isLetterOrDigit 0 0 0) [12, 24, 36] (12, [some (.inl v0)], [], [], 0, 0) = some (some (.inl (fn4_isLetterOrDigit_c12 v0)), []) := by
  unfold wp4_isLetterOrDigit_c12 at hp
  have i24 := @rc4_isLetterOrDigit_24
  have i36 := @rc4_isLetterOrDigit_36
  refine am_lf_eq ?_
  generalize am_lf (am_mk kb4_isLetterOrDigit 0 0 0) [12, 24, 36] = kt at i24 i36 ⊢
  refine am_if (c := v0 < (65 : Int32)) (fun h1 => ?_) (fun h1 => ?_)
  · have q1 := hp.1 h1
    have e : fn4_isLetterOrDigit_c12 v0 = fn4_isLetterOrDigit_c24 v0 := by
      rw [fn4_isLetterOrDigit_c12]
      rw [if_pos h1]
    rw [e]
    exact i24 v0  q1
  · have q1 := hp.2 h1
    refine am_if (c := v0 ≤ (90 : Int32)) (fun h2 => ?_) (fun h2 => ?_)
    · have q2 := q1.1 h2
      have e : fn4_isLetterOrDigit_c12 v0 = fn4_isLetterOrDigit_c36  := by
        rw [fn4_isLetterOrDigit_c12]
        rw [if_neg h1, if_pos h2]
      rw [e]
      exact i36  _ rfl q2
    · have q2 := q1.2 h2
      have e : fn4_isLetterOrDigit_c12 v0 = fn4_isLetterOrDigit_c24 v0 := by
        rw [fn4_isLetterOrDigit_c12]
        rw [if_neg h1, if_neg h2]
      rw [e]
      exact i24 v0  q2
noncomputable def fn4_isLetterOrDigit (p0 : Int32) : Int32 := Classical.choose (⟨_, rfl⟩ : ∃ z : Int32, z = (if p0 < (97 : Int32) then (fn4_isLetterOrDigit_c12 p0) else (if p0 ≤ (122 : Int32) then (fn4_isLetterOrDigit_c36 ) else (fn4_isLetterOrDigit_c12 p0))))
theorem fq4_isLetterOrDigit (p0 : Int32) : fn4_isLetterOrDigit p0 = (if p0 < (97 : Int32) then (fn4_isLetterOrDigit_c12 p0) else (if p0 ≤ (122 : Int32) then (fn4_isLetterOrDigit_c36 ) else (fn4_isLetterOrDigit_c12 p0))) := Classical.choose_spec (⟨_, rfl⟩ : ∃ z : Int32, z = (if p0 < (97 : Int32) then (fn4_isLetterOrDigit_c12 p0) else (if p0 ≤ (122 : Int32) then (fn4_isLetterOrDigit_c36 ) else (fn4_isLetterOrDigit_c12 p0))))
def wp4_isLetterOrDigit (p0 : Int32) : Prop := ((p0 < (97 : Int32) → (wp4_isLetterOrDigit_c12 p0)) ∧ (¬ p0 < (97 : Int32) → ((p0 ≤ (122 : Int32) → (wp4_isLetterOrDigit_c36 )) ∧ (¬ p0 ≤ (122 : Int32) → (wp4_isLetterOrDigit_c12 p0)))))
set_option maxRecDepth 100000 in
set_option maxHeartbeats 4000000 in
theorem re4_isLetterOrDigit (p0 : Int32) (hp : wp4_isLetterOrDigit p0) : am_lf (am_mk kb4_isLetterOrDigit 0 0 0) [12, 24, 36] (0, am_L0 [.inl p0] 1, [], [], 0, 0) = some (some (.inl (fn4_isLetterOrDigit p0)), []) := by
  unfold wp4_isLetterOrDigit at hp
  have i12 := @rc4_isLetterOrDigit_12
  have i36 := @rc4_isLetterOrDigit_36
  refine am_lf_eq ?_
  generalize am_lf (am_mk kb4_isLetterOrDigit 0 0 0) [12, 24, 36] = kt at i12 i36 ⊢
  refine am_if (c := p0 < (97 : Int32)) (fun h1 => ?_) (fun h1 => ?_)
  · have q1 := hp.1 h1
    have e : fn4_isLetterOrDigit p0 = fn4_isLetterOrDigit_c12 p0 := by
      rw [fq4_isLetterOrDigit]
      rw [if_pos h1]
    rw [e]
    exact i12 p0  q1
  · have q1 := hp.2 h1
    refine am_if (c := p0 ≤ (122 : Int32)) (fun h2 => ?_) (fun h2 => ?_)
    · have q2 := q1.1 h2
      have e : fn4_isLetterOrDigit p0 = fn4_isLetterOrDigit_c36  := by
        rw [fq4_isLetterOrDigit]
        rw [if_neg h1, if_pos h2]
      rw [e]
      exact i36  _ rfl q2
    · have q2 := q1.2 h2
      have e : fn4_isLetterOrDigit p0 = fn4_isLetterOrDigit_c12 p0 := by
        rw [fq4_isLetterOrDigit]
        rw [if_neg h1, if_neg h2]
      rw [e]
      exact i12 p0  q2
abbrev pr4_isLetterOrDigit : List am_V → List am_C → Prop := fun a w => ∃ (p0 : Int32), a = [.inl p0] ∧ w = [] ∧ wp4_isLetterOrDigit p0
noncomputable def fm4_isLetterOrDigit : am_M := fun a w => (fun (z : Int32) => (some (.inl z), [], 0, 0)) (fn4_isLetterOrDigit (am_i (am_an a 0)))
theorem fe4_isLetterOrDigit (p0 : Int32) : fm4_isLetterOrDigit [.inl p0] [] = (some (.inl (fn4_isLetterOrDigit p0)), [], 0, 0) := rfl
set_option maxRecDepth 100000 in
set_option maxHeartbeats 4000000 in
theorem rn4_isLetterOrDigit : ∀ (a : List am_V) (w : List am_C), pr4_isLetterOrDigit a w → ∃ nq, am_ev (am_mk kb4_isLetterOrDigit (fm4_isLetterOrDigit a w).2.2.1 (fm4_isLetterOrDigit a w).2.2.2 w.length) [12, 24, 36] nq (0, am_L0 a 1, [], w, 0, 0) = some ((fm4_isLetterOrDigit a w).1, (fm4_isLetterOrDigit a w).2.1) := by
  rintro a w ⟨p0, rfl, rfl, hp⟩
  rw [fe4_isLetterOrDigit p0]
  exact am_lf_ev (re4_isLetterOrDigit p0 hp)
theorem rl4_isLetterOrDigit : ∀ (a : List am_V) (w : List am_C), pr4_isLetterOrDigit a w → a.length ≤ 1 := by
  rintro a w ⟨p0, rfl, rfl, hp⟩
  exact Nat.le_of_ble_eq_true rfl
set_option maxRecDepth 100000 in
set_option maxHeartbeats 4000000 in
theorem km4_isLetterOrDigit {l : Launch} {E : (Nat → Prop) → State → Prop} {D : va_G} {ou : Nat → Nat} {ca : Nat → ClassId} (hE : hg_E E ou) : hg_Met l E D ou ca hy4_isLetterOrDigit prog_6_method_5_code 1 (some .boolean) 0 pr4_isLetterOrDigit fm4_isLetterOrDigit := by
  refine am_met (B := kb4_isLetterOrDigit) (cuts := [12, 24, 36]) (nt := 5) (by decide +kernel) rfl rfl (hg_tys_ok ca) ?_ (by decide) rl4_isLetterOrDigit ?_ rn4_isLetterOrDigit
  · exact fun t ht => List.mem_cons_of_mem _ (hg_arr t ht)
  · intro a w hp ad p e R s m args below meth c hR X hEs hnm
    have hR1 : 0 ≤ R.frames ∧ 0 ≤ R.locals := by rw [hR]; exact ⟨Nat.le_refl _, Nat.le_refl _⟩
    have hN := hE.2.1 _ _ hEs
    refine ⟨kd4_isLetterOrDigit_ok, fun index ci fi mode hq => kf4_ok X.2.2.2.2.1 hN.1 (index, ci, fi, mode) (am_as_mem hq), fun index ci fs hq => (am_no hq).elim, fun x v hq => (am_no hq).elim, ?_, fun o t n f hq => (am_no hq).elim, rfl, rfl, by rw [hR]; exact Nat.le_refl _, by rw [hR]; exact Nat.le_refl _⟩
    intro pc sel n0 pre0 f0 hq
    exact (am_no hq).elim
noncomputable def ki4_isVariable : List (Nat × Option (List Nat) × Nat × (List am_V → List am_C → Prop) × am_M) := []
noncomputable def kb4_isVariable : am_B := (kd4_isVariable, am_as kf4, hn_ty, fun _ => none, fun _ => none, am_as ki4_isVariable, fun _ => none, 5, 1, (some .boolean))
noncomputable def fn4_isVariable (p0 : Int32) : Int32 := Classical.choose (⟨_, rfl⟩ : ∃ z : Int32, z = (if p0 < (97 : Int32) then (0 : Int32) else (if (105 : Int32) ≤ p0 then (0 : Int32) else (1 : Int32))))
theorem fq4_isVariable (p0 : Int32) : fn4_isVariable p0 = (if p0 < (97 : Int32) then (0 : Int32) else (if (105 : Int32) ≤ p0 then (0 : Int32) else (1 : Int32))) := Classical.choose_spec (⟨_, rfl⟩ : ∃ z : Int32, z = (if p0 < (97 : Int32) then (0 : Int32) else (if (105 : Int32) ≤ p0 then (0 : Int32) else (1 : Int32))))
def wp4_isVariable (p0 : Int32) : Prop := True
set_option maxRecDepth 100000 in
set_option maxHeartbeats 4000000 in
theorem re4_isVariable (p0 : Int32) (hp : wp4_isVariable p0) : am_lf (am_mk kb4_isVariable 0 0 0) [] (0, am_L0 [.inl p0] 1, [], [], 0, 0) = some (some (.inl (fn4_isVariable p0)), []) := by
  unfold wp4_isVariable at hp
  refine am_lf_eq ?_
  generalize am_lf (am_mk kb4_isVariable 0 0 0) [] = kt
  refine am_if (c := p0 < (97 : Int32)) (fun h1 => ?_) (fun h1 => ?_)
  · have e : fn4_isVariable p0 = (0 : Int32) := by
      rw [fq4_isVariable]
      rw [if_pos h1]
    rw [e] <;> rfl
  · refine am_if (c := (105 : Int32) ≤ p0) (fun h2 => ?_) (fun h2 => ?_)
    · have e : fn4_isVariable p0 = (0 : Int32) := by
        rw [fq4_isVariable]
        rw [if_neg h1, if_pos h2]
      rw [e] <;> rfl
    · have e : fn4_isVariable p0 = (1 : Int32) := by
        rw [fq4_isVariable]
        rw [if_neg h1, if_neg h2]
      rw [e] <;> rfl
abbrev pr4_isVariable : List am_V → List am_C → Prop := fun a w => ∃ (p0 : Int32), a = [.inl p0] ∧ w = [] ∧ wp4_isVariable p0
noncomputable def fm4_isVariable : am_M := fun a w => (fun (z : Int32) => (some (.inl z), [], 0, 0)) (fn4_isVariable (am_i (am_an a 0)))
theorem fe4_isVariable (p0 : Int32) : fm4_isVariable [.inl p0] [] = (some (.inl (fn4_isVariable p0)), [], 0, 0) := rfl
set_option maxRecDepth 100000 in
set_option maxHeartbeats 4000000 in
theorem rn4_isVariable : ∀ (a : List am_V) (w : List am_C), pr4_isVariable a w → ∃ nq, am_ev (am_mk kb4_isVariable (fm4_isVariable a w).2.2.1 (fm4_isVariable a w).2.2.2 w.length) [] nq (0, am_L0 a 1, [], w, 0, 0) = some ((fm4_isVariable a w).1, (fm4_isVariable a w).2.1) := by
  rintro a w ⟨p0, rfl, rfl, hp⟩
  rw [fe4_isVariable p0]
  exact am_lf_ev (re4_isVariable p0 hp)
theorem rl4_isVariable : ∀ (a : List am_V) (w : List am_C), pr4_isVariable a w → a.length ≤ 1 := by
  rintro a w ⟨p0, rfl, rfl, hp⟩
  exact Nat.le_of_ble_eq_true rfl
set_option maxRecDepth 100000 in
set_option maxHeartbeats 4000000 in
theorem km4_isVariable {l : Launch} {E : (Nat → Prop) → State → Prop} {D : va_G} {ou : Nat → Nat} {ca : Nat → ClassId} (hE : hg_E E ou) : hg_Met l E D ou ca hy4_isVariable prog_6_method_6_code 1 (some .boolean) 0 pr4_isVariable fm4_isVariable := by
  refine am_met (B := kb4_isVariable) (cuts := []) (nt := 5) (by decide +kernel) rfl rfl (hg_tys_ok ca) ?_ (by decide) rl4_isVariable ?_ rn4_isVariable
  · exact fun t ht => List.mem_cons_of_mem _ (hg_arr t ht)
  · intro a w hp ad p e R s m args below meth c hR X hEs hnm
    have hR1 : 0 ≤ R.frames ∧ 0 ≤ R.locals := by rw [hR]; exact ⟨Nat.le_refl _, Nat.le_refl _⟩
    have hN := hE.2.1 _ _ hEs
    refine ⟨kd4_isVariable_ok, fun index ci fi mode hq => kf4_ok X.2.2.2.2.1 hN.1 (index, ci, fi, mode) (am_as_mem hq), fun index ci fs hq => (am_no hq).elim, fun x v hq => (am_no hq).elim, ?_, fun o t n f hq => (am_no hq).elim, rfl, rfl, by rw [hR]; exact Nat.le_refl _, by rw [hR]; exact Nat.le_refl _⟩
    intro pc sel n0 pre0 f0 hq
    exact (am_no hq).elim
noncomputable def ki4_isQuote : List (Nat × Option (List Nat) × Nat × (List am_V → List am_C → Prop) × am_M) := []
noncomputable def kb4_isQuote : am_B := (kd4_isQuote, am_as kf4, hn_ty, fun _ => none, fun _ => none, am_as ki4_isQuote, fun _ => none, 5, 1, (some .boolean))
noncomputable def fn4_isQuote (p0 : Int32) : Int32 := Classical.choose (⟨_, rfl⟩ : ∃ z : Int32, z = (if p0 = (34 : Int32) then (1 : Int32) else (if p0 = (39 : Int32) then (1 : Int32) else (0 : Int32))))
theorem fq4_isQuote (p0 : Int32) : fn4_isQuote p0 = (if p0 = (34 : Int32) then (1 : Int32) else (if p0 = (39 : Int32) then (1 : Int32) else (0 : Int32))) := Classical.choose_spec (⟨_, rfl⟩ : ∃ z : Int32, z = (if p0 = (34 : Int32) then (1 : Int32) else (if p0 = (39 : Int32) then (1 : Int32) else (0 : Int32))))
def wp4_isQuote (p0 : Int32) : Prop := True
set_option maxRecDepth 100000 in
set_option maxHeartbeats 4000000 in
theorem re4_isQuote (p0 : Int32) (hp : wp4_isQuote p0) : am_lf (am_mk kb4_isQuote 0 0 0) [] (0, am_L0 [.inl p0] 1, [], [], 0, 0) = some (some (.inl (fn4_isQuote p0)), []) := by
  unfold wp4_isQuote at hp
  refine am_lf_eq ?_
  generalize am_lf (am_mk kb4_isQuote 0 0 0) [] = kt
  refine am_if (c := p0 = (34 : Int32)) (fun h1 => ?_) (fun h1 => ?_)
  · have e : fn4_isQuote p0 = (1 : Int32) := by
      rw [fq4_isQuote]
      rw [if_pos h1]
    rw [e] <;> rfl
  · refine am_if (c := p0 = (39 : Int32)) (fun h2 => ?_) (fun h2 => ?_)
    · have e : fn4_isQuote p0 = (1 : Int32) := by
        rw [fq4_isQuote]
        rw [if_neg h1, if_pos h2]
      rw [e] <;> rfl
    · have e : fn4_isQuote p0 = (0 : Int32) := by
        rw [fq4_isQuote]
        rw [if_neg h1, if_neg h2]
      rw [e] <;> rfl
abbrev pr4_isQuote : List am_V → List am_C → Prop := fun a w => ∃ (p0 : Int32), a = [.inl p0] ∧ w = [] ∧ wp4_isQuote p0
noncomputable def fm4_isQuote : am_M := fun a w => (fun (z : Int32) => (some (.inl z), [], 0, 0)) (fn4_isQuote (am_i (am_an a 0)))
theorem fe4_isQuote (p0 : Int32) : fm4_isQuote [.inl p0] [] = (some (.inl (fn4_isQuote p0)), [], 0, 0) := rfl
set_option maxRecDepth 100000 in
set_option maxHeartbeats 4000000 in
theorem rn4_isQuote : ∀ (a : List am_V) (w : List am_C), pr4_isQuote a w → ∃ nq, am_ev (am_mk kb4_isQuote (fm4_isQuote a w).2.2.1 (fm4_isQuote a w).2.2.2 w.length) [] nq (0, am_L0 a 1, [], w, 0, 0) = some ((fm4_isQuote a w).1, (fm4_isQuote a w).2.1) := by
  rintro a w ⟨p0, rfl, rfl, hp⟩
  rw [fe4_isQuote p0]
  exact am_lf_ev (re4_isQuote p0 hp)
theorem rl4_isQuote : ∀ (a : List am_V) (w : List am_C), pr4_isQuote a w → a.length ≤ 1 := by
  rintro a w ⟨p0, rfl, rfl, hp⟩
  exact Nat.le_of_ble_eq_true rfl
set_option maxRecDepth 100000 in
set_option maxHeartbeats 4000000 in
theorem km4_isQuote {l : Launch} {E : (Nat → Prop) → State → Prop} {D : va_G} {ou : Nat → Nat} {ca : Nat → ClassId} (hE : hg_E E ou) : hg_Met l E D ou ca hy4_isQuote prog_6_method_7_code 1 (some .boolean) 0 pr4_isQuote fm4_isQuote := by
  refine am_met (B := kb4_isQuote) (cuts := []) (nt := 5) (by decide +kernel) rfl rfl (hg_tys_ok ca) ?_ (by decide) rl4_isQuote ?_ rn4_isQuote
  · exact fun t ht => List.mem_cons_of_mem _ (hg_arr t ht)
  · intro a w hp ad p e R s m args below meth c hR X hEs hnm
    have hR1 : 0 ≤ R.frames ∧ 0 ≤ R.locals := by rw [hR]; exact ⟨Nat.le_refl _, Nat.le_refl _⟩
    have hN := hE.2.1 _ _ hEs
    refine ⟨kd4_isQuote_ok, fun index ci fi mode hq => kf4_ok X.2.2.2.2.1 hN.1 (index, ci, fi, mode) (am_as_mem hq), fun index ci fs hq => (am_no hq).elim, fun x v hq => (am_no hq).elim, ?_, fun o t n f hq => (am_no hq).elim, rfl, rfl, by rw [hR]; exact Nat.le_refl _, by rw [hR]; exact Nat.le_refl _⟩
    intro pc sel n0 pre0 f0 hq
    exact (am_no hq).elim
noncomputable def ki4_small : List (Nat × Option (List Nat) × Nat × (List am_V → List am_C → Prop) × am_M) := []
noncomputable def kb4_small : am_B := (kd4_small, am_as kf4, hn_ty, fun _ => none, fun _ => none, am_as ki4_small, fun _ => none, 5, 1, (some .char))
noncomputable def fn4_small (p0 : Int32) : Int32 := Classical.choose (⟨_, rfl⟩ : ∃ z : Int32, z = (if p0 < (65 : Int32) then p0 else (if (90 : Int32) < p0 then p0 else (((((p0 - (65 : Int32)) + (97 : Int32))).toUInt32 % 65536).toInt32))))
theorem fq4_small (p0 : Int32) : fn4_small p0 = (if p0 < (65 : Int32) then p0 else (if (90 : Int32) < p0 then p0 else (((((p0 - (65 : Int32)) + (97 : Int32))).toUInt32 % 65536).toInt32))) := Classical.choose_spec (⟨_, rfl⟩ : ∃ z : Int32, z = (if p0 < (65 : Int32) then p0 else (if (90 : Int32) < p0 then p0 else (((((p0 - (65 : Int32)) + (97 : Int32))).toUInt32 % 65536).toInt32))))
def wp4_small (p0 : Int32) : Prop := ((p0 < (65 : Int32) → (am_fit .char (.inl p0) = true)) ∧ (¬ p0 < (65 : Int32) → (((90 : Int32) < p0 → (am_fit .char (.inl p0) = true)) ∧ (¬ (90 : Int32) < p0 → (am_fit .char (.inl (((((p0 - (65 : Int32)) + (97 : Int32))).toUInt32 % 65536).toInt32)) = true)))))
set_option maxRecDepth 100000 in
set_option maxHeartbeats 4000000 in
theorem re4_small (p0 : Int32) (hp : wp4_small p0) : am_lf (am_mk kb4_small 0 0 0) [] (0, am_L0 [.inl p0] 1, [], [], 0, 0) = some (some (.inl (fn4_small p0)), []) := by
  unfold wp4_small at hp
  refine am_lf_eq ?_
  generalize am_lf (am_mk kb4_small 0 0 0) [] = kt
  refine am_if (c := p0 < (65 : Int32)) (fun h1 => ?_) (fun h1 => ?_)
  · have q1 := hp.1 h1
    refine am_ci (c := am_fit .char (.inl p0) = true) q1 ?_
    have e : fn4_small p0 = p0 := by
      rw [fq4_small]
      rw [if_pos h1]
    rw [e] <;> rfl
  · have q1 := hp.2 h1
    refine am_if (c := (90 : Int32) < p0) (fun h2 => ?_) (fun h2 => ?_)
    · have q2 := q1.1 h2
      refine am_ci (c := am_fit .char (.inl p0) = true) q2 ?_
      have e : fn4_small p0 = p0 := by
        rw [fq4_small]
        rw [if_neg h1, if_pos h2]
      rw [e] <;> rfl
    · have q2 := q1.2 h2
      refine am_ci (c := am_fit .char (.inl (((((p0 - (65 : Int32)) + (97 : Int32))).toUInt32 % 65536).toInt32)) = true) q2 ?_
      have e : fn4_small p0 = (((((p0 - (65 : Int32)) + (97 : Int32))).toUInt32 % 65536).toInt32) := by
        rw [fq4_small]
        rw [if_neg h1, if_neg h2]
      rw [e] <;> rfl
abbrev pr4_small : List am_V → List am_C → Prop := fun a w => ∃ (p0 : Int32), a = [.inl p0] ∧ w = [] ∧ wp4_small p0
noncomputable def fm4_small : am_M := fun a w => (fun (z : Int32) => (some (.inl z), [], 0, 0)) (fn4_small (am_i (am_an a 0)))
theorem fe4_small (p0 : Int32) : fm4_small [.inl p0] [] = (some (.inl (fn4_small p0)), [], 0, 0) := rfl
set_option maxRecDepth 100000 in
set_option maxHeartbeats 4000000 in
theorem rn4_small : ∀ (a : List am_V) (w : List am_C), pr4_small a w → ∃ nq, am_ev (am_mk kb4_small (fm4_small a w).2.2.1 (fm4_small a w).2.2.2 w.length) [] nq (0, am_L0 a 1, [], w, 0, 0) = some ((fm4_small a w).1, (fm4_small a w).2.1) := by
  rintro a w ⟨p0, rfl, rfl, hp⟩
  rw [fe4_small p0]
  exact am_lf_ev (re4_small p0 hp)
theorem rl4_small : ∀ (a : List am_V) (w : List am_C), pr4_small a w → a.length ≤ 1 := by
  rintro a w ⟨p0, rfl, rfl, hp⟩
  exact Nat.le_of_ble_eq_true rfl
set_option maxRecDepth 100000 in
set_option maxHeartbeats 4000000 in
theorem km4_small {l : Launch} {E : (Nat → Prop) → State → Prop} {D : va_G} {ou : Nat → Nat} {ca : Nat → ClassId} (hE : hg_E E ou) : hg_Met l E D ou ca hy4_small prog_6_method_8_code 1 (some .char) 0 pr4_small fm4_small := by
  refine am_met (B := kb4_small) (cuts := []) (nt := 5) (by decide +kernel) rfl rfl (hg_tys_ok ca) ?_ (by decide) rl4_small ?_ rn4_small
  · exact fun t ht => List.mem_cons_of_mem _ (hg_arr t ht)
  · intro a w hp ad p e R s m args below meth c hR X hEs hnm
    have hR1 : 0 ≤ R.frames ∧ 0 ≤ R.locals := by rw [hR]; exact ⟨Nat.le_refl _, Nat.le_refl _⟩
    have hN := hE.2.1 _ _ hEs
    refine ⟨kd4_small_ok, fun index ci fi mode hq => kf4_ok X.2.2.2.2.1 hN.1 (index, ci, fi, mode) (am_as_mem hq), fun index ci fs hq => (am_no hq).elim, fun x v hq => (am_no hq).elim, ?_, fun o t n f hq => (am_no hq).elim, rfl, rfl, by rw [hR]; exact Nat.le_refl _, by rw [hR]; exact Nat.le_refl _⟩
    intro pc sel n0 pre0 f0 hq
    exact (am_no hq).elim
noncomputable def ki4_highHex : List (Nat × Option (List Nat) × Nat × (List am_V → List am_C → Prop) × am_M) := [(8, some [], 2, prJ_charAt, fmJ_charAt)]
def kc4_highHex : List (Nat × am_V) := [(11, .inr (.inr (29 + 1)))]
noncomputable def kb4_highHex : am_B := (kd4_highHex, am_as kf4, hn_ty, fun _ => none, am_as kc4_highHex, am_as ki4_highHex, fun _ => none, 5, 1, (some .char))
noncomputable def fn4_highHex (p0 : Int32) : Int32 := Classical.choose (⟨_, rfl⟩ : ∃ z : Int32, z = (fnJ_charAt 29 ((p0 >>> ((4 : Int32) &&& 31)) &&& (15 : Int32))))
theorem fq4_highHex (p0 : Int32) : fn4_highHex p0 = (fnJ_charAt 29 ((p0 >>> ((4 : Int32) &&& 31)) &&& (15 : Int32))) := Classical.choose_spec (⟨_, rfl⟩ : ∃ z : Int32, z = (fnJ_charAt 29 ((p0 >>> ((4 : Int32) &&& 31)) &&& (15 : Int32))))
def wp4_highHex (p0 : Int32) : Prop := ((wpJ_charAt 29 ((p0 >>> ((4 : Int32) &&& 31)) &&& (15 : Int32))) ∧ (am_fit .char (.inl (fnJ_charAt 29 ((p0 >>> ((4 : Int32) &&& 31)) &&& (15 : Int32)))) = true))
set_option maxRecDepth 100000 in
set_option maxHeartbeats 4000000 in
theorem re4_highHex (p0 : Int32) (hp : wp4_highHex p0) : am_lf (am_mk kb4_highHex 0 0 0) [] (0, am_L0 [.inl p0] 1, [], [], 0, 0) = some (some (.inl (fn4_highHex p0)), []) := by
  unfold wp4_highHex at hp
  refine am_lf_eq ?_
  generalize am_lf (am_mk kb4_highHex 0 0 0) [] = kt
  refine am_cy (pre := prJ_charAt) (f := fmJ_charAt) (a' := [.inr (.inr (29 + 1)), .inl ((p0 >>> ((4 : Int32) &&& 31)) &&& (15 : Int32))]) (wc := []) (w' := []) (r := (some (.inl (fnJ_charAt 29 ((p0 >>> ((4 : Int32) &&& 31)) &&& (15 : Int32)))), [], 0, 0)) ?_ ?_ ?_ ?_ ?_ ?_ ?_ ?_ ?_ ?_
  · exact am_sow0 _
  · rfl
  · rfl
  · exact am_sub0 _
  · exact ⟨29, ((p0 >>> ((4 : Int32) &&& 31)) &&& (15 : Int32)), rfl, rfl, hp.1⟩
  · exact feJ_charAt 29 ((p0 >>> ((4 : Int32) &&& 31)) &&& (15 : Int32))
  · exact rfl
  · rfl
  · exact am_mix0 _
  refine am_ci (c := am_fit .char (.inl (fnJ_charAt 29 ((p0 >>> ((4 : Int32) &&& 31)) &&& (15 : Int32)))) = true) hp.2 ?_
  have e : fn4_highHex p0 = (fnJ_charAt 29 ((p0 >>> ((4 : Int32) &&& 31)) &&& (15 : Int32))) := by
    rw [fq4_highHex]
  rw [e] <;> rfl
abbrev pr4_highHex : List am_V → List am_C → Prop := fun a w => ∃ (p0 : Int32), a = [.inl p0] ∧ w = [] ∧ wp4_highHex p0
noncomputable def fm4_highHex : am_M := fun a w => (fun (z : Int32) => (some (.inl z), [], 0, 0)) (fn4_highHex (am_i (am_an a 0)))
theorem fe4_highHex (p0 : Int32) : fm4_highHex [.inl p0] [] = (some (.inl (fn4_highHex p0)), [], 0, 0) := rfl
set_option maxRecDepth 100000 in
set_option maxHeartbeats 4000000 in
theorem rn4_highHex : ∀ (a : List am_V) (w : List am_C), pr4_highHex a w → ∃ nq, am_ev (am_mk kb4_highHex (fm4_highHex a w).2.2.1 (fm4_highHex a w).2.2.2 w.length) [] nq (0, am_L0 a 1, [], w, 0, 0) = some ((fm4_highHex a w).1, (fm4_highHex a w).2.1) := by
  rintro a w ⟨p0, rfl, rfl, hp⟩
  rw [fe4_highHex p0]
  exact am_lf_ev (re4_highHex p0 hp)
theorem rl4_highHex : ∀ (a : List am_V) (w : List am_C), pr4_highHex a w → a.length ≤ 1 := by
  rintro a w ⟨p0, rfl, rfl, hp⟩
  exact Nat.le_of_ble_eq_true rfl
set_option maxRecDepth 100000 in
set_option maxHeartbeats 4000000 in
theorem km4_highHex {l : Launch} {E : (Nat → Prop) → State → Prop} {D : va_G} {ou : Nat → Nat} {ca : Nat → ClassId} (hE : hg_E E ou) : hg_Met l E D ou ca hy4_highHex prog_6_method_9_code 1 (some .char) 4 pr4_highHex fm4_highHex := by
  refine am_met (B := kb4_highHex) (cuts := []) (nt := 5) (by decide +kernel) rfl rfl (hg_tys_ok ca) ?_ (by decide) rl4_highHex ?_ rn4_highHex
  · exact fun t ht => List.mem_cons_of_mem _ (hg_arr t ht)
  · intro a w hp ad p e R s m args below meth c hR X hEs hnm
    have hR1 : 4 ≤ R.frames ∧ 160 ≤ R.locals := by rw [hR]; exact ⟨Nat.le_refl _, Nat.le_refl _⟩
    have hN := hE.2.1 _ _ hEs
    have hc : ∀ q ∈ kc4_highHex, am_LK s hn_R4 args ou q.1 q.2 := am_allc (hg_lk hN.2 29 rfl) (am_all0)
    refine ⟨kd4_highHex_ok, fun index ci fi mode hq => kf4_ok X.2.2.2.2.1 hN.1 (index, ci, fi, mode) (am_as_mem hq), fun index ci fs hq => (am_no hq).elim, fun x v hq => hc (x, v) (am_as_mem hq), ?_, fun o t n f hq => (am_no hq).elim, rfl, rfl, by rw [hR]; exact Nat.le_refl _, by rw [hR]; exact Nat.le_refl _⟩
    intro pc sel n0 pre0 f0 hq
    have hz : ∀ q ∈ ki4_highHex, am_CK p l e R s m args below meth c D hn_cl (va_A (am_w ad ou ca w) s.heap.size) ou ca 1 q.1 q.2.2.1 q.2.2.2.1 q.2.2.2.2 := by
      refine am_allc (am_ck_VS (n := 1) X hEs hE (kmJ_charAt hE) (hg_good (gw_mem 378 (by decide +kernel))) rfl (List.mem_cons_of_mem _ (gw_mem 83 (by decide +kernel))) (List.mem_cons_of_mem _ (gw_mem 912 (by decide +kernel))) (List.mem_cons_of_mem _ (gw_mem 376 (by decide +kernel))) (List.mem_cons_of_mem _ (gw_mem 377 (by decide +kernel))) rfl paJ_charAt (by decide +kernel) ⟨Nat.le_trans (by decide) hR1.1, Nat.le_trans (by decide) hR1.2⟩ (kd4_highHex_ok (8, .invokevirtual 13, 3) (List.mem_of_getElem? (i := 6) rfl))) (am_all0)
    exact hz _ (am_as_mem hq)
noncomputable def ki4_lowHex : List (Nat × Option (List Nat) × Nat × (List am_V → List am_C → Prop) × am_M) := [(6, some [], 2, prJ_charAt, fmJ_charAt)]
def kc4_lowHex : List (Nat × am_V) := [(11, .inr (.inr (29 + 1)))]
noncomputable def kb4_lowHex : am_B := (kd4_lowHex, am_as kf4, hn_ty, fun _ => none, am_as kc4_lowHex, am_as ki4_lowHex, fun _ => none, 5, 1, (some .char))
noncomputable def fn4_lowHex (p0 : Int32) : Int32 := Classical.choose (⟨_, rfl⟩ : ∃ z : Int32, z = (fnJ_charAt 29 (p0 &&& (15 : Int32))))
theorem fq4_lowHex (p0 : Int32) : fn4_lowHex p0 = (fnJ_charAt 29 (p0 &&& (15 : Int32))) := Classical.choose_spec (⟨_, rfl⟩ : ∃ z : Int32, z = (fnJ_charAt 29 (p0 &&& (15 : Int32))))
def wp4_lowHex (p0 : Int32) : Prop := ((wpJ_charAt 29 (p0 &&& (15 : Int32))) ∧ (am_fit .char (.inl (fnJ_charAt 29 (p0 &&& (15 : Int32)))) = true))
set_option maxRecDepth 100000 in
set_option maxHeartbeats 4000000 in
theorem re4_lowHex (p0 : Int32) (hp : wp4_lowHex p0) : am_lf (am_mk kb4_lowHex 0 0 0) [] (0, am_L0 [.inl p0] 1, [], [], 0, 0) = some (some (.inl (fn4_lowHex p0)), []) := by
  unfold wp4_lowHex at hp
  refine am_lf_eq ?_
  generalize am_lf (am_mk kb4_lowHex 0 0 0) [] = kt
  refine am_cy (pre := prJ_charAt) (f := fmJ_charAt) (a' := [.inr (.inr (29 + 1)), .inl (p0 &&& (15 : Int32))]) (wc := []) (w' := []) (r := (some (.inl (fnJ_charAt 29 (p0 &&& (15 : Int32)))), [], 0, 0)) ?_ ?_ ?_ ?_ ?_ ?_ ?_ ?_ ?_ ?_
  · exact am_sow0 _
  · rfl
  · rfl
  · exact am_sub0 _
  · exact ⟨29, (p0 &&& (15 : Int32)), rfl, rfl, hp.1⟩
  · exact feJ_charAt 29 (p0 &&& (15 : Int32))
  · exact rfl
  · rfl
  · exact am_mix0 _
  refine am_ci (c := am_fit .char (.inl (fnJ_charAt 29 (p0 &&& (15 : Int32)))) = true) hp.2 ?_
  have e : fn4_lowHex p0 = (fnJ_charAt 29 (p0 &&& (15 : Int32))) := by
    rw [fq4_lowHex]
  rw [e] <;> rfl
abbrev pr4_lowHex : List am_V → List am_C → Prop := fun a w => ∃ (p0 : Int32), a = [.inl p0] ∧ w = [] ∧ wp4_lowHex p0
noncomputable def fm4_lowHex : am_M := fun a w => (fun (z : Int32) => (some (.inl z), [], 0, 0)) (fn4_lowHex (am_i (am_an a 0)))
theorem fe4_lowHex (p0 : Int32) : fm4_lowHex [.inl p0] [] = (some (.inl (fn4_lowHex p0)), [], 0, 0) := rfl
set_option maxRecDepth 100000 in
set_option maxHeartbeats 4000000 in
theorem rn4_lowHex : ∀ (a : List am_V) (w : List am_C), pr4_lowHex a w → ∃ nq, am_ev (am_mk kb4_lowHex (fm4_lowHex a w).2.2.1 (fm4_lowHex a w).2.2.2 w.length) [] nq (0, am_L0 a 1, [], w, 0, 0) = some ((fm4_lowHex a w).1, (fm4_lowHex a w).2.1) := by
  rintro a w ⟨p0, rfl, rfl, hp⟩
  rw [fe4_lowHex p0]
  exact am_lf_ev (re4_lowHex p0 hp)
theorem rl4_lowHex : ∀ (a : List am_V) (w : List am_C), pr4_lowHex a w → a.length ≤ 1 := by
  rintro a w ⟨p0, rfl, rfl, hp⟩
  exact Nat.le_of_ble_eq_true rfl
set_option maxRecDepth 100000 in
set_option maxHeartbeats 4000000 in
theorem km4_lowHex {l : Launch} {E : (Nat → Prop) → State → Prop} {D : va_G} {ou : Nat → Nat} {ca : Nat → ClassId} (hE : hg_E E ou) : hg_Met l E D ou ca hy4_lowHex prog_6_method_10_code 1 (some .char) 4 pr4_lowHex fm4_lowHex := by
  refine am_met (B := kb4_lowHex) (cuts := []) (nt := 5) (by decide +kernel) rfl rfl (hg_tys_ok ca) ?_ (by decide) rl4_lowHex ?_ rn4_lowHex
  · exact fun t ht => List.mem_cons_of_mem _ (hg_arr t ht)
  · intro a w hp ad p e R s m args below meth c hR X hEs hnm
    have hR1 : 4 ≤ R.frames ∧ 160 ≤ R.locals := by rw [hR]; exact ⟨Nat.le_refl _, Nat.le_refl _⟩
    have hN := hE.2.1 _ _ hEs
    have hc : ∀ q ∈ kc4_lowHex, am_LK s hn_R4 args ou q.1 q.2 := am_allc (hg_lk hN.2 29 rfl) (am_all0)
    refine ⟨kd4_lowHex_ok, fun index ci fi mode hq => kf4_ok X.2.2.2.2.1 hN.1 (index, ci, fi, mode) (am_as_mem hq), fun index ci fs hq => (am_no hq).elim, fun x v hq => hc (x, v) (am_as_mem hq), ?_, fun o t n f hq => (am_no hq).elim, rfl, rfl, by rw [hR]; exact Nat.le_refl _, by rw [hR]; exact Nat.le_refl _⟩
    intro pc sel n0 pre0 f0 hq
    have hz : ∀ q ∈ ki4_lowHex, am_CK p l e R s m args below meth c D hn_cl (va_A (am_w ad ou ca w) s.heap.size) ou ca 1 q.1 q.2.2.1 q.2.2.2.1 q.2.2.2.2 := by
      refine am_allc (am_ck_VS (n := 1) X hEs hE (kmJ_charAt hE) (hg_good (gw_mem 378 (by decide +kernel))) rfl (List.mem_cons_of_mem _ (gw_mem 83 (by decide +kernel))) (List.mem_cons_of_mem _ (gw_mem 912 (by decide +kernel))) (List.mem_cons_of_mem _ (gw_mem 376 (by decide +kernel))) (List.mem_cons_of_mem _ (gw_mem 377 (by decide +kernel))) rfl paJ_charAt (by decide +kernel) ⟨Nat.le_trans (by decide) hR1.1, Nat.le_trans (by decide) hR1.2⟩ (kd4_lowHex_ok (6, .invokevirtual 13, 3) (List.mem_of_getElem? (i := 4) rfl))) (am_all0)
    exact hz _ (am_as_mem hq)
noncomputable def ki6_put : List (Nat × Option (List Nat) × Nat × (List am_V → List am_C → Prop) × am_M) := []
noncomputable def kb6_put : am_B := (kd6_put, am_as kf6, hn_ty, fun _ => none, fun _ => none, am_as ki6_put, fun _ => none, 5, 2, (some .boolean))
noncomputable def fn6_put (n : Nat) (t : qt6) (p0 : Int32) : Int32 × qt6 := Classical.choose (⟨_, rfl⟩ : ∃ z : Int32 × qt6, z = (if (qg6_length t) < (Int32.ofNat n) then ((1 : Int32), (qu6_length (qa6_chars t (((qg6_length t)).toNatClampNeg) (vp_nar .char p0)) ((qg6_length (qa6_chars t (((qg6_length t)).toNatClampNeg) (vp_nar .char p0))) + (1 : Int32)))) else ((0 : Int32), (qu6_spilled t (1 : Int32)))))
theorem fq6_put (n : Nat) (t : qt6) (p0 : Int32) : fn6_put n t p0 = (if (qg6_length t) < (Int32.ofNat n) then ((1 : Int32), (qu6_length (qa6_chars t (((qg6_length t)).toNatClampNeg) (vp_nar .char p0)) ((qg6_length (qa6_chars t (((qg6_length t)).toNatClampNeg) (vp_nar .char p0))) + (1 : Int32)))) else ((0 : Int32), (qu6_spilled t (1 : Int32)))) := Classical.choose_spec (⟨_, rfl⟩ : ∃ z : Int32 × qt6, z = (if (qg6_length t) < (Int32.ofNat n) then ((1 : Int32), (qu6_length (qa6_chars t (((qg6_length t)).toNatClampNeg) (vp_nar .char p0)) ((qg6_length (qa6_chars t (((qg6_length t)).toNatClampNeg) (vp_nar .char p0))) + (1 : Int32)))) else ((0 : Int32), (qu6_spilled t (1 : Int32)))))
def wp6_put (n : Nat) (t : qt6) (p0 : Int32) : Prop := (((qg6_length t) < (Int32.ofNat n) → (am_inb (qg6_length t) n = true)) ∧ (¬ (qg6_length t) < (Int32.ofNat n) → True))
set_option maxRecDepth 100000 in
set_option maxHeartbeats 4000000 in
theorem re6_put (n : Nat) (t : qt6) (p0 : Int32) (hp : wp6_put n t p0) : am_lf (am_mk kb6_put 0 0 2) [] (0, am_L0 [.inr (.inl 0), .inl p0] 2, [], (kw_T n t), 0, 0) = some (some (.inl ((fn6_put n t p0).1)), (kw_T n ((fn6_put n t p0).2))) := by
  unfold wp6_put at hp
  refine am_lf_eq ?_
  generalize am_lf (am_mk kb6_put 0 0 2) [] = kt
  refine am_if (c := (qg6_length t) < (Int32.ofNat n)) (fun h1 => ?_) (fun h1 => ?_)
  · have q1 := hp.1 h1
    refine am_ci (c := am_inb (qg6_length t) n = true) q1 ?_
    refine am_sp (w' := (kw_T n (qa6_chars t (((qg6_length t)).toNatClampNeg) (vp_nar .char p0)))) (kp_T_0_chars n t (((qg6_length t)).toNatClampNeg) (vp_nar .char p0)) ?_
    refine am_sp (w' := (kw_T n (qu6_length (qa6_chars t (((qg6_length t)).toNatClampNeg) (vp_nar .char p0)) ((qg6_length (qa6_chars t (((qg6_length t)).toNatClampNeg) (vp_nar .char p0))) + (1 : Int32))))) (kp_T_0_length n (qa6_chars t (((qg6_length t)).toNatClampNeg) (vp_nar .char p0)) ((qg6_length (qa6_chars t (((qg6_length t)).toNatClampNeg) (vp_nar .char p0))) + (1 : Int32))) ?_
    have e : fn6_put n t p0 = ((1 : Int32), (qu6_length (qa6_chars t (((qg6_length t)).toNatClampNeg) (vp_nar .char p0)) ((qg6_length (qa6_chars t (((qg6_length t)).toNatClampNeg) (vp_nar .char p0))) + (1 : Int32)))) := by
      rw [fq6_put]
      rw [if_pos h1]
    rw [e] <;> rfl
  · refine am_sp (w' := (kw_T n (qu6_spilled t (1 : Int32)))) (kp_T_0_spilled n t (1 : Int32)) ?_
    have e : fn6_put n t p0 = ((0 : Int32), (qu6_spilled t (1 : Int32))) := by
      rw [fq6_put]
      rw [if_neg h1]
    rw [e] <;> rfl
abbrev pr6_put : List am_V → List am_C → Prop := fun a w => ∃ (n : Nat) (t : qt6) (p0 : Int32), a = [.inr (.inl 0), .inl p0] ∧ w = (kw_T n t) ∧ wp6_put n t p0
noncomputable def fm6_put : am_M := fun a w => (fun (z : Int32 × qt6) => (some (.inl (z.1)), (kw_T (am_gn w 1) (z.2)), 0, 0)) (fn6_put (am_gn w 1) (qs6 w 0) (am_i (am_an a 1)))
theorem fe6_put (n : Nat) (t : qt6) (p0 : Int32) : fm6_put [.inr (.inl 0), .inl p0] (kw_T n t) = (some (.inl ((fn6_put n t p0).1)), (kw_T n ((fn6_put n t p0).2)), 0, 0) := rfl
set_option maxRecDepth 100000 in
set_option maxHeartbeats 4000000 in
theorem rn6_put : ∀ (a : List am_V) (w : List am_C), pr6_put a w → ∃ nq, am_ev (am_mk kb6_put (fm6_put a w).2.2.1 (fm6_put a w).2.2.2 w.length) [] nq (0, am_L0 a 2, [], w, 0, 0) = some ((fm6_put a w).1, (fm6_put a w).2.1) := by
  rintro a w ⟨n, t, p0, rfl, rfl, hp⟩
  rw [fe6_put n t p0]
  exact am_lf_ev (re6_put n t p0 hp)
theorem rl6_put : ∀ (a : List am_V) (w : List am_C), pr6_put a w → a.length ≤ 2 := by
  rintro a w ⟨n, t, p0, rfl, rfl, hp⟩
  exact Nat.le_of_ble_eq_true rfl
theorem pa6_put : ∀ a w, pr6_put a w → ∃ q a' ci fs r, a = .inr (.inl q) :: a' ∧ w[q]? = some (.inr (ci, fs)) ∧ hn_cl[ci]? = some r ∧ r.1 = hn_R6 := by
  rintro a w ⟨n, t, p0, rfl, rfl, hp⟩
  exact ⟨0, _, 6, _, _, rfl, rfl, rfl, rfl⟩
set_option maxRecDepth 100000 in
set_option maxHeartbeats 4000000 in
theorem km6_put {l : Launch} {E : (Nat → Prop) → State → Prop} {D : va_G} {ou : Nat → Nat} {ca : Nat → ClassId} (hE : hg_E E ou) : hg_Met l E D ou ca hy6_put prog_8_method_2_code 2 (some .boolean) 0 pr6_put fm6_put := by
  refine am_met (B := kb6_put) (cuts := []) (nt := 5) (by decide +kernel) rfl rfl (hg_tys_ok ca) ?_ (by decide) rl6_put ?_ rn6_put
  · exact fun t ht => List.mem_cons_of_mem _ (hg_arr t ht)
  · intro a w hp ad p e R s m args below meth c hR X hEs hnm
    have hR1 : 0 ≤ R.frames ∧ 0 ≤ R.locals := by rw [hR]; exact ⟨Nat.le_refl _, Nat.le_refl _⟩
    have hN := hE.2.1 _ _ hEs
    refine ⟨kd6_put_ok, fun index ci fi mode hq => kf6_ok X.2.2.2.2.1 hN.1 (index, ci, fi, mode) (am_as_mem hq), fun index ci fs hq => (am_no hq).elim, fun x v hq => (am_no hq).elim, ?_, fun o t n f hq => (am_no hq).elim, rfl, rfl, by rw [hR]; exact Nat.le_refl _, by rw [hR]; exact Nat.le_refl _⟩
    intro pc sel n0 pre0 f0 hq
    exact (am_no hq).elim
noncomputable def ki6_putAll : List (Nat × Option (List Nat) × Nat × (List am_V → List am_C → Prop) × am_M) := [(4, some [], 1, prJ_length, fmJ_length), (13, some [], 2, prJ_charAt, fmJ_charAt), (16, none, 2, pr6_put, fm6_put)]
noncomputable def kb6_putAll : am_B := (kd6_putAll, am_as kf6, hn_ty, fun _ => none, fun _ => none, am_as ki6_putAll, fun _ => none, 5, 3, none)
noncomputable def fn6_putAll_c2 : Nat → Nat → qt6 → Nat → Int32 → qt6
  | 0, _, t, _, _ => t
  | fu + 1, n, t, v1, v2 => (if (fnJ_length v1) ≤ v2 then t else (fn6_putAll_c2 fu n ((fn6_put n t (fnJ_charAt v1 v2)).2) v1 (v2 + (1 : Int32))))
def wp6_putAll_c2 : Nat → Nat → qt6 → Nat → Int32 → Prop
  | 0, _, _, _, _ => False
  | fu + 1, n, t, v1, v2 => ((wpJ_length v1) ∧ (((fnJ_length v1) ≤ v2 → True) ∧ (¬ (fnJ_length v1) ≤ v2 → ((wpJ_charAt v1 v2) ∧ ((wp6_put n t (fnJ_charAt v1 v2)) ∧ (wp6_putAll_c2 fu n ((fn6_put n t (fnJ_charAt v1 v2)).2) v1 (v2 + (1 : Int32))))))))
set_option maxRecDepth 100000 in
set_option maxHeartbeats 4000000 in
theorem rc6_putAll_2 : ∀ (fu : Nat) (n : Nat) (t : qt6) (v1 : Nat) (v2 : Int32) , wp6_putAll_c2 fu n t v1 v2 → am_lf (am_mk kb6_putAll 0 0 2) [2] (2, [some (.inr (.inl 0)), some (.inr (.inr (v1 + 1))), some (.inl v2)], [], (kw_T n t), 0, 0) = some (none, (kw_T n (fn6_putAll_c2 fu n t v1 v2))) := by
  intro fu
  induction fu with
  | zero =>
    intro n t v1 v2 hp
    exact hp.elim
  | succ fu ih =>
    intro n t v1 v2 hp
    unfold wp6_putAll_c2 at hp
    refine am_lf_eq ?_
    generalize am_lf (am_mk kb6_putAll 0 0 2) [2] = kt at ih ⊢
    refine am_cy (pre := prJ_length) (f := fmJ_length) (a' := [.inr (.inr (v1 + 1))]) (wc := []) (w' := (kw_T n t)) (r := (some (.inl (fnJ_length v1)), [], 0, 0)) ?_ ?_ ?_ ?_ ?_ ?_ ?_ ?_ ?_ ?_
    · exact am_sow0 _
    · rfl
    · rfl
    · exact am_sub0 _
    · exact ⟨v1, rfl, rfl, hp.1⟩
    · exact feJ_length v1
    · exact rfl
    · rfl
    · exact am_mix0 _
    refine am_if (c := (fnJ_length v1) ≤ v2) (fun h2 => ?_) (fun h2 => ?_)
    · have e : fn6_putAll_c2 (fu + 1) n t v1 v2 = t := by
        rw [fn6_putAll_c2]
        rw [if_pos h2]
      rw [e] <;> rfl
    · have q2 := hp.2.2 h2
      refine am_cy (pre := prJ_charAt) (f := fmJ_charAt) (a' := [.inr (.inr (v1 + 1)), .inl v2]) (wc := []) (w' := (kw_T n t)) (r := (some (.inl (fnJ_charAt v1 v2)), [], 0, 0)) ?_ ?_ ?_ ?_ ?_ ?_ ?_ ?_ ?_ ?_
      · exact am_sow0 _
      · rfl
      · rfl
      · exact am_sub0 _
      · exact ⟨v1, v2, rfl, rfl, q2.1⟩
      · exact feJ_charAt v1 v2
      · exact rfl
      · rfl
      · exact am_mix0 _
      refine am_cx (pre := pr6_put) (f := fm6_put) (r := (some (.inl ((fn6_put n t (fnJ_charAt v1 v2)).1)), (kw_T n ((fn6_put n t (fnJ_charAt v1 v2)).2)), 0, 0)) ?_ ?_ ?_ ?_
      · exact ⟨n, t, (fnJ_charAt v1 v2), rfl, rfl, q2.2.1⟩
      · exact fe6_put n t (fnJ_charAt v1 v2)
      · exact rfl
      have e : fn6_putAll_c2 (fu + 1) n t v1 v2 = fn6_putAll_c2 fu n ((fn6_put n t (fnJ_charAt v1 v2)).2) v1 (v2 + (1 : Int32)) := by
        rw [fn6_putAll_c2]
        rw [if_neg h2]
      rw [e]
      exact ih n ((fn6_put n t (fnJ_charAt v1 v2)).2) v1 (v2 + (1 : Int32))  q2.2.2
noncomputable def fn6_putAll (n : Nat) (t : qt6) (p0 : Nat) : qt6 := Classical.choose (⟨_, rfl⟩ : ∃ z : qt6, z = (fn6_putAll_c2 hg_fu n t p0 (0 : Int32)))
theorem fq6_putAll (n : Nat) (t : qt6) (p0 : Nat) : fn6_putAll n t p0 = (fn6_putAll_c2 hg_fu n t p0 (0 : Int32)) := Classical.choose_spec (⟨_, rfl⟩ : ∃ z : qt6, z = (fn6_putAll_c2 hg_fu n t p0 (0 : Int32)))
def wp6_putAll (n : Nat) (t : qt6) (p0 : Nat) : Prop := (wp6_putAll_c2 hg_fu n t p0 (0 : Int32))
set_option maxRecDepth 100000 in
set_option maxHeartbeats 4000000 in
theorem re6_putAll (n : Nat) (t : qt6) (p0 : Nat) (hp : wp6_putAll n t p0) : am_lf (am_mk kb6_putAll 0 0 2) [2] (0, am_L0 [.inr (.inl 0), .inr (.inr (p0 + 1))] 3, [], (kw_T n t), 0, 0) = some (none, (kw_T n (fn6_putAll n t p0))) := by
  unfold wp6_putAll at hp
  have i2 := @rc6_putAll_2
  refine am_lf_eq ?_
  generalize am_lf (am_mk kb6_putAll 0 0 2) [2] = kt at i2 ⊢
  have e : fn6_putAll n t p0 = fn6_putAll_c2 hg_fu n t p0 (0 : Int32) := by
    rw [fq6_putAll]
  rw [e]
  exact i2 hg_fu n t p0 (0 : Int32)  hp
abbrev pr6_putAll : List am_V → List am_C → Prop := fun a w => ∃ (n : Nat) (t : qt6) (p0 : Nat), a = [.inr (.inl 0), .inr (.inr (p0 + 1))] ∧ w = (kw_T n t) ∧ wp6_putAll n t p0
noncomputable def fm6_putAll : am_M := fun a w => (fun (z : qt6) => (none, (kw_T (am_gn w 1) z), 0, 0)) (fn6_putAll (am_gn w 1) (qs6 w 0) (am_n (am_an a 1)))
theorem fe6_putAll (n : Nat) (t : qt6) (p0 : Nat) : fm6_putAll [.inr (.inl 0), .inr (.inr (p0 + 1))] (kw_T n t) = (none, (kw_T n (fn6_putAll n t p0)), 0, 0) := rfl
set_option maxRecDepth 100000 in
set_option maxHeartbeats 4000000 in
theorem rn6_putAll : ∀ (a : List am_V) (w : List am_C), pr6_putAll a w → ∃ nq, am_ev (am_mk kb6_putAll (fm6_putAll a w).2.2.1 (fm6_putAll a w).2.2.2 w.length) [2] nq (0, am_L0 a 3, [], w, 0, 0) = some ((fm6_putAll a w).1, (fm6_putAll a w).2.1) := by
  rintro a w ⟨n, t, p0, rfl, rfl, hp⟩
  rw [fe6_putAll n t p0]
  exact am_lf_ev (re6_putAll n t p0 hp)
theorem rl6_putAll : ∀ (a : List am_V) (w : List am_C), pr6_putAll a w → a.length ≤ 3 := by
  rintro a w ⟨n, t, p0, rfl, rfl, hp⟩
  exact Nat.le_of_ble_eq_true rfl
theorem pa6_putAll : ∀ a w, pr6_putAll a w → ∃ q a' ci fs r, a = .inr (.inl q) :: a' ∧ w[q]? = some (.inr (ci, fs)) ∧ hn_cl[ci]? = some r ∧ r.1 = hn_R6 := by
  rintro a w ⟨n, t, p0, rfl, rfl, hp⟩
  exact ⟨0, _, 6, _, _, rfl, rfl, rfl, rfl⟩
set_option maxRecDepth 100000 in
set_option maxHeartbeats 4000000 in
theorem km6_putAll {l : Launch} {E : (Nat → Prop) → State → Prop} {D : va_G} {ou : Nat → Nat} {ca : Nat → ClassId} (hE : hg_E E ou) : hg_Met l E D ou ca hy6_putAll prog_8_method_3_code 3 none 4 pr6_putAll fm6_putAll := by
  refine am_met (B := kb6_putAll) (cuts := [2]) (nt := 5) (by decide +kernel) rfl rfl (hg_tys_ok ca) ?_ (by decide) rl6_putAll ?_ rn6_putAll
  · exact fun t ht => List.mem_cons_of_mem _ (hg_arr t ht)
  · intro a w hp ad p e R s m args below meth c hR X hEs hnm
    have hR1 : 4 ≤ R.frames ∧ 160 ≤ R.locals := by rw [hR]; exact ⟨Nat.le_refl _, Nat.le_refl _⟩
    have hN := hE.2.1 _ _ hEs
    refine ⟨kd6_putAll_ok, fun index ci fi mode hq => kf6_ok X.2.2.2.2.1 hN.1 (index, ci, fi, mode) (am_as_mem hq), fun index ci fs hq => (am_no hq).elim, fun x v hq => (am_no hq).elim, ?_, fun o t n f hq => (am_no hq).elim, rfl, rfl, by rw [hR]; exact Nat.le_refl _, by rw [hR]; exact Nat.le_refl _⟩
    intro pc sel n0 pre0 f0 hq
    have hz : ∀ q ∈ ki6_putAll, am_CK p l e R s m args below meth c D hn_cl (va_A (am_w ad ou ca w) s.heap.size) ou ca 3 q.1 q.2.2.1 q.2.2.2.1 q.2.2.2.2 := by
      refine am_allc (am_ck_VS (n := 0) X hEs hE (kmJ_length hE) (hg_good (gw_mem 367 (by decide +kernel))) rfl (List.mem_cons_of_mem _ (gw_mem 83 (by decide +kernel))) (List.mem_cons_of_mem _ (gw_mem 815 (by decide +kernel))) (List.mem_cons_of_mem _ (gw_mem 365 (by decide +kernel))) (List.mem_cons_of_mem _ (gw_mem 366 (by decide +kernel))) rfl paJ_length (by decide +kernel) ⟨Nat.le_trans (by decide) hR1.1, Nat.le_trans (by decide) hR1.2⟩ (kd6_putAll_ok (4, .invokevirtual 29, 3) (List.mem_of_getElem? (i := 4) rfl))) (am_allc (am_ck_VS (n := 1) X hEs hE (kmJ_charAt hE) (hg_good (gw_mem 378 (by decide +kernel))) rfl (List.mem_cons_of_mem _ (gw_mem 83 (by decide +kernel))) (List.mem_cons_of_mem _ (gw_mem 816 (by decide +kernel))) (List.mem_cons_of_mem _ (gw_mem 376 (by decide +kernel))) (List.mem_cons_of_mem _ (gw_mem 377 (by decide +kernel))) rfl paJ_charAt (by decide +kernel) ⟨Nat.le_trans (by decide) hR1.1, Nat.le_trans (by decide) hR1.2⟩ (kd6_putAll_ok (13, .invokevirtual 34, 3) (List.mem_of_getElem? (i := 9) rfl))) (am_allc (am_ck_V (n := 1) X hEs hE.1 (km6_put hE) (hg_good (gw_mem 290 (by decide +kernel))) rfl (List.mem_cons_of_mem _ (gw_mem 69 (by decide +kernel))) (List.mem_cons_of_mem _ (gw_mem 817 (by decide +kernel))) (List.mem_cons_of_mem _ (gw_mem 288 (by decide +kernel))) (List.mem_cons_of_mem _ (gw_mem 289 (by decide +kernel))) pa6_put (by decide +kernel) ⟨Nat.le_trans (by decide) hR1.1, Nat.le_trans (by decide) hR1.2⟩ (kd6_putAll_ok (16, .invokevirtual 38, 3) (List.mem_of_getElem? (i := 10) rfl))) (am_all0)))
    exact hz _ (am_as_mem hq)
noncomputable def ki6_putHex : List (Nat × Option (List Nat) × Nat × (List am_V → List am_C → Prop) × am_M) := [(2, some [], 1, pr4_highHex, fm4_highHex), (5, none, 2, pr6_put, fm6_put), (11, some [], 1, pr4_lowHex, fm4_lowHex), (14, none, 2, pr6_put, fm6_put)]
noncomputable def kb6_putHex : am_B := (kd6_putHex, am_as kf6, hn_ty, fun _ => none, fun _ => none, am_as ki6_putHex, fun _ => none, 5, 2, none)
noncomputable def fn6_putHex (n : Nat) (t : qt6) (p0 : Int32) : qt6 := Classical.choose (⟨_, rfl⟩ : ∃ z : qt6, z = (fn6_put n ((fn6_put n t (fn4_highHex p0)).2) (fn4_lowHex p0)).2)
theorem fq6_putHex (n : Nat) (t : qt6) (p0 : Int32) : fn6_putHex n t p0 = (fn6_put n ((fn6_put n t (fn4_highHex p0)).2) (fn4_lowHex p0)).2 := Classical.choose_spec (⟨_, rfl⟩ : ∃ z : qt6, z = (fn6_put n ((fn6_put n t (fn4_highHex p0)).2) (fn4_lowHex p0)).2)
def wp6_putHex (n : Nat) (t : qt6) (p0 : Int32) : Prop := ((wp4_highHex p0) ∧ ((wp6_put n t (fn4_highHex p0)) ∧ ((wp4_lowHex p0) ∧ (wp6_put n ((fn6_put n t (fn4_highHex p0)).2) (fn4_lowHex p0)))))
set_option maxRecDepth 100000 in
set_option maxHeartbeats 4000000 in
theorem re6_putHex (n : Nat) (t : qt6) (p0 : Int32) (hp : wp6_putHex n t p0) : am_lf (am_mk kb6_putHex 0 0 2) [] (0, am_L0 [.inr (.inl 0), .inl p0] 2, [], (kw_T n t), 0, 0) = some (none, (kw_T n (fn6_putHex n t p0))) := by
  unfold wp6_putHex at hp
  refine am_lf_eq ?_
  generalize am_lf (am_mk kb6_putHex 0 0 2) [] = kt
  refine am_cy (pre := pr4_highHex) (f := fm4_highHex) (a' := [.inl p0]) (wc := []) (w' := (kw_T n t)) (r := (some (.inl (fn4_highHex p0)), [], 0, 0)) ?_ ?_ ?_ ?_ ?_ ?_ ?_ ?_ ?_ ?_
  · exact am_sow0 _
  · rfl
  · rfl
  · exact am_sub0 _
  · exact ⟨p0, rfl, rfl, hp.1⟩
  · exact fe4_highHex p0
  · exact rfl
  · rfl
  · exact am_mix0 _
  refine am_cx (pre := pr6_put) (f := fm6_put) (r := (some (.inl ((fn6_put n t (fn4_highHex p0)).1)), (kw_T n ((fn6_put n t (fn4_highHex p0)).2)), 0, 0)) ?_ ?_ ?_ ?_
  · exact ⟨n, t, (fn4_highHex p0), rfl, rfl, hp.2.1⟩
  · exact fe6_put n t (fn4_highHex p0)
  · exact rfl
  refine am_cy (pre := pr4_lowHex) (f := fm4_lowHex) (a' := [.inl p0]) (wc := []) (w' := (kw_T n ((fn6_put n t (fn4_highHex p0)).2))) (r := (some (.inl (fn4_lowHex p0)), [], 0, 0)) ?_ ?_ ?_ ?_ ?_ ?_ ?_ ?_ ?_ ?_
  · exact am_sow0 _
  · rfl
  · rfl
  · exact am_sub0 _
  · exact ⟨p0, rfl, rfl, hp.2.2.1⟩
  · exact fe4_lowHex p0
  · exact rfl
  · rfl
  · exact am_mix0 _
  refine am_cx (pre := pr6_put) (f := fm6_put) (r := (some (.inl ((fn6_put n ((fn6_put n t (fn4_highHex p0)).2) (fn4_lowHex p0)).1)), (kw_T n ((fn6_put n ((fn6_put n t (fn4_highHex p0)).2) (fn4_lowHex p0)).2)), 0, 0)) ?_ ?_ ?_ ?_
  · exact ⟨n, (fn6_put n t (fn4_highHex p0)).2, (fn4_lowHex p0), rfl, rfl, hp.2.2.2⟩
  · exact fe6_put n ((fn6_put n t (fn4_highHex p0)).2) (fn4_lowHex p0)
  · exact rfl
  have e : fn6_putHex n t p0 = (fn6_put n ((fn6_put n t (fn4_highHex p0)).2) (fn4_lowHex p0)).2 := by
    rw [fq6_putHex]
  rw [e] <;> rfl
abbrev pr6_putHex : List am_V → List am_C → Prop := fun a w => ∃ (n : Nat) (t : qt6) (p0 : Int32), a = [.inr (.inl 0), .inl p0] ∧ w = (kw_T n t) ∧ wp6_putHex n t p0
noncomputable def fm6_putHex : am_M := fun a w => (fun (z : qt6) => (none, (kw_T (am_gn w 1) z), 0, 0)) (fn6_putHex (am_gn w 1) (qs6 w 0) (am_i (am_an a 1)))
theorem fe6_putHex (n : Nat) (t : qt6) (p0 : Int32) : fm6_putHex [.inr (.inl 0), .inl p0] (kw_T n t) = (none, (kw_T n (fn6_putHex n t p0)), 0, 0) := rfl
set_option maxRecDepth 100000 in
set_option maxHeartbeats 4000000 in
theorem rn6_putHex : ∀ (a : List am_V) (w : List am_C), pr6_putHex a w → ∃ nq, am_ev (am_mk kb6_putHex (fm6_putHex a w).2.2.1 (fm6_putHex a w).2.2.2 w.length) [] nq (0, am_L0 a 2, [], w, 0, 0) = some ((fm6_putHex a w).1, (fm6_putHex a w).2.1) := by
  rintro a w ⟨n, t, p0, rfl, rfl, hp⟩
  rw [fe6_putHex n t p0]
  exact am_lf_ev (re6_putHex n t p0 hp)
theorem rl6_putHex : ∀ (a : List am_V) (w : List am_C), pr6_putHex a w → a.length ≤ 2 := by
  rintro a w ⟨n, t, p0, rfl, rfl, hp⟩
  exact Nat.le_of_ble_eq_true rfl
theorem pa6_putHex : ∀ a w, pr6_putHex a w → ∃ q a' ci fs r, a = .inr (.inl q) :: a' ∧ w[q]? = some (.inr (ci, fs)) ∧ hn_cl[ci]? = some r ∧ r.1 = hn_R6 := by
  rintro a w ⟨n, t, p0, rfl, rfl, hp⟩
  exact ⟨0, _, 6, _, _, rfl, rfl, rfl, rfl⟩
set_option maxRecDepth 100000 in
set_option maxHeartbeats 4000000 in
theorem km6_putHex {l : Launch} {E : (Nat → Prop) → State → Prop} {D : va_G} {ou : Nat → Nat} {ca : Nat → ClassId} (hE : hg_E E ou) : hg_Met l E D ou ca hy6_putHex prog_8_method_4_code 2 none 5 pr6_putHex fm6_putHex := by
  refine am_met (B := kb6_putHex) (cuts := []) (nt := 5) (by decide +kernel) rfl rfl (hg_tys_ok ca) ?_ (by decide) rl6_putHex ?_ rn6_putHex
  · exact fun t ht => List.mem_cons_of_mem _ (hg_arr t ht)
  · intro a w hp ad p e R s m args below meth c hR X hEs hnm
    have hR1 : 5 ≤ R.frames ∧ 200 ≤ R.locals := by rw [hR]; exact ⟨Nat.le_refl _, Nat.le_refl _⟩
    have hN := hE.2.1 _ _ hEs
    refine ⟨kd6_putHex_ok, fun index ci fi mode hq => kf6_ok X.2.2.2.2.1 hN.1 (index, ci, fi, mode) (am_as_mem hq), fun index ci fs hq => (am_no hq).elim, fun x v hq => (am_no hq).elim, ?_, fun o t n f hq => (am_no hq).elim, rfl, rfl, by rw [hR]; exact Nat.le_refl _, by rw [hR]; exact Nat.le_refl _⟩
    intro pc sel n0 pre0 f0 hq
    have hz : ∀ q ∈ ki6_putHex, am_CK p l e R s m args below meth c D hn_cl (va_A (am_w ad ou ca w) s.heap.size) ou ca 2 q.1 q.2.2.1 q.2.2.2.1 q.2.2.2.2 := by
      refine am_allc (am_ck_S (n := 1) X hEs hE.1 (km4_highHex hE) (hg_good (gw_mem 910 (by decide +kernel))) rfl (List.mem_cons_of_mem _ (gw_mem 77 (by decide +kernel))) (List.mem_cons_of_mem _ (gw_mem 908 (by decide +kernel))) (List.mem_cons_of_mem _ (gw_mem 909 (by decide +kernel))) (by decide +kernel) ⟨Nat.le_trans (by decide) hR1.1, Nat.le_trans (by decide) hR1.2⟩ (kd6_putHex_ok (2, .invokestatic 42, 3) (List.mem_of_getElem? (i := 2) rfl))) (am_allc (am_ck_V (n := 1) X hEs hE.1 (km6_put hE) (hg_good (gw_mem 290 (by decide +kernel))) rfl (List.mem_cons_of_mem _ (gw_mem 69 (by decide +kernel))) (List.mem_cons_of_mem _ (gw_mem 817 (by decide +kernel))) (List.mem_cons_of_mem _ (gw_mem 288 (by decide +kernel))) (List.mem_cons_of_mem _ (gw_mem 289 (by decide +kernel))) pa6_put (by decide +kernel) ⟨Nat.le_trans (by decide) hR1.1, Nat.le_trans (by decide) hR1.2⟩ (kd6_putHex_ok (5, .invokevirtual 38, 3) (List.mem_of_getElem? (i := 3) rfl))) (am_allc (am_ck_S (n := 1) X hEs hE.1 (km4_lowHex hE) (hg_good (gw_mem 915 (by decide +kernel))) rfl (List.mem_cons_of_mem _ (gw_mem 77 (by decide +kernel))) (List.mem_cons_of_mem _ (gw_mem 913 (by decide +kernel))) (List.mem_cons_of_mem _ (gw_mem 914 (by decide +kernel))) (by decide +kernel) ⟨Nat.le_trans (by decide) hR1.1, Nat.le_trans (by decide) hR1.2⟩ (kd6_putHex_ok (11, .invokestatic 48, 3) (List.mem_of_getElem? (i := 7) rfl))) (am_allc (am_ck_V (n := 1) X hEs hE.1 (km6_put hE) (hg_good (gw_mem 290 (by decide +kernel))) rfl (List.mem_cons_of_mem _ (gw_mem 69 (by decide +kernel))) (List.mem_cons_of_mem _ (gw_mem 817 (by decide +kernel))) (List.mem_cons_of_mem _ (gw_mem 288 (by decide +kernel))) (List.mem_cons_of_mem _ (gw_mem 289 (by decide +kernel))) pa6_put (by decide +kernel) ⟨Nat.le_trans (by decide) hR1.1, Nat.le_trans (by decide) hR1.2⟩ (kd6_putHex_ok (14, .invokevirtual 38, 3) (List.mem_of_getElem? (i := 8) rfl))) (am_all0))))
    exact hz _ (am_as_mem hq)
