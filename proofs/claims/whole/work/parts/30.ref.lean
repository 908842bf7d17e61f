def fn10_thrown (s : hs) : Int32 := (hm_thrown s)
def wp10_thrown (s : hs) : Prop := True
noncomputable def ki10_thrown : List (Nat × Option (List Nat) × Nat × (List am_V → List am_C → Prop) × am_M) := []
noncomputable def kb10_thrown : am_B := (kd10_thrown, am_as kf10, hn_ty, fun _ => none, fun _ => none, am_as ki10_thrown, fun _ => none, 5, 1, (some .int))
set_option maxRecDepth 100000 in
set_option maxHeartbeats 4000000 in
theorem re10_thrown (s : hs) (hp : wp10_thrown s ) : am_ev (am_mk kb10_thrown 0 0 22) [] 1 (0, am_L0 [.inr (.inl 0)] 1, [], hm_w s, 0, 0) = some (some (.inl (fn10_thrown s )), hm_w s) := by
  unfold wp10_thrown at hp
  rfl
abbrev pr10_thrown : List am_V → List am_C → Prop := hm_pr (fun s is => match is with
  | [] => wp10_thrown s 
  | _ => False)
def fm10_thrown : am_M := hm_fn (fun s is => match is with
  | [] => (fn10_thrown s , s)
  | _ => (0, s))
set_option maxRecDepth 100000 in
set_option maxHeartbeats 4000000 in
theorem rn10_thrown : ∀ (a : List am_V) (w : List am_C), pr10_thrown a w → ∃ n, am_ev (am_mk kb10_thrown (fm10_thrown a w).2.2.1 (fm10_thrown a w).2.2.2 w.length) [] n (0, am_L0 a 1, [], w, 0, 0) = some ((fm10_thrown a w).1, (fm10_thrown a w).2.1) := by
  rintro a w ⟨s, is, rfl, rfl, hp⟩
  rcases is with _ | ⟨z, is⟩
  · exact ⟨1, re10_thrown s  hp⟩
  · exact hp.elim
theorem rl10_thrown : ∀ (a : List am_V) (w : List am_C), pr10_thrown a w → a.length ≤ 1 := by
  rintro a w ⟨s, is, rfl, rfl, hp⟩
  rcases is with _ | ⟨z, is⟩
  · exact Nat.le_of_ble_eq_true rfl
  · exact hp.elim
set_option maxRecDepth 100000 in
set_option maxHeartbeats 4000000 in
theorem km10_thrown {l : Launch} {E : (Nat → Prop) → State → Prop} {D : va_G} {ou : Nat → Nat} {ca : Nat → ClassId} (hE : am_EC E) : hg_Met l E D ou ca hy10_thrown prog_12_method_2_code 1 (some .int) 0 pr10_thrown fm10_thrown := by
  refine am_met (B := kb10_thrown) (cuts := []) (nt := 5) (by decide +kernel) rfl rfl (hg_tys_ok ca) ?_ (by decide) rl10_thrown ?_ rn10_thrown
  · exact fun t ht => List.mem_cons_of_mem _ (hg_arr t ht)
  · intro a w hp ad p e R s m args below meth c hR X hEs hnm
    have hR1 : 0 ≤ R.frames ∧ 0 ≤ R.locals := by rw [hR]; exact ⟨Nat.le_refl _, Nat.le_refl _⟩
    refine ⟨kd10_thrown_ok, fun index ci fi mode hq => kf10_ok X.2.2.2.2.1 (index, ci, fi, mode) (am_as_mem hq), fun index ci fs hq => (am_no hq).elim, fun x v hq => (am_no hq).elim, ?_, fun o n f hq => (am_no hq).elim, rfl, rfl, by rw [hR]; exact Nat.le_refl _, by rw [hR]; exact Nat.le_refl _⟩
    intro pc sel n0 pre0 f0 hq
    exact (am_no hq).elim
def fn10_type (s : hs) (p0 : Int32) : Int32 × hs := (if p0 = (10 : Int32) then (if (hm_typed (hu_thrown s (0 : Int32))) = (40 : Int32) then ((0 : Int32), (hu_thrown s (0 : Int32))) else ((1 : Int32), (hu_typed (hu_row (hu_thrown s (0 : Int32)) (upd (hm_row (hu_thrown s (0 : Int32))) ((hm_typed (hu_thrown s (0 : Int32)))).toNatClampNeg (vp_nar .char p0))) ((hm_typed (hu_row (hu_thrown s (0 : Int32)) (upd (hm_row (hu_thrown s (0 : Int32))) ((hm_typed (hu_thrown s (0 : Int32)))).toNatClampNeg (vp_nar .char p0)))) + (1 : Int32))))) else (if p0 < (32 : Int32) then ((0 : Int32), (hu_thrown s (0 : Int32))) else (if (126 : Int32) < p0 then ((0 : Int32), (hu_thrown s (0 : Int32))) else (if (hm_typed (hu_thrown s (0 : Int32))) = (40 : Int32) then ((0 : Int32), (hu_thrown s (0 : Int32))) else ((1 : Int32), (hu_typed (hu_row (hu_thrown s (0 : Int32)) (upd (hm_row (hu_thrown s (0 : Int32))) ((hm_typed (hu_thrown s (0 : Int32)))).toNatClampNeg (vp_nar .char p0))) ((hm_typed (hu_row (hu_thrown s (0 : Int32)) (upd (hm_row (hu_thrown s (0 : Int32))) ((hm_typed (hu_thrown s (0 : Int32)))).toNatClampNeg (vp_nar .char p0)))) + (1 : Int32))))))))
def wp10_type (s : hs) (p0 : Int32) : Prop := ((p0 = (10 : Int32) → (((hm_typed (hu_thrown s (0 : Int32))) = (40 : Int32) → True) ∧ (¬ (hm_typed (hu_thrown s (0 : Int32))) = (40 : Int32) → (am_inb (hm_typed (hu_thrown s (0 : Int32))) 40 = true)))) ∧ (¬ p0 = (10 : Int32) → ((p0 < (32 : Int32) → True) ∧ (¬ p0 < (32 : Int32) → (((126 : Int32) < p0 → True) ∧ (¬ (126 : Int32) < p0 → (((hm_typed (hu_thrown s (0 : Int32))) = (40 : Int32) → True) ∧ (¬ (hm_typed (hu_thrown s (0 : Int32))) = (40 : Int32) → (am_inb (hm_typed (hu_thrown s (0 : Int32))) 40 = true)))))))))
noncomputable def ki10_type : List (Nat × Option (List Nat) × Nat × (List am_V → List am_C → Prop) × am_M) := []
noncomputable def kb10_type : am_B := (kd10_type, am_as kf10, hn_ty, fun _ => none, fun _ => none, am_as ki10_type, fun _ => none, 5, 2, (some .boolean))
set_option maxRecDepth 100000 in
set_option maxHeartbeats 4000000 in
theorem re10_type (s : hs) (p0 : Int32) (hp : wp10_type s p0) : am_ev (am_mk kb10_type 0 0 22) [] 1 (0, am_L0 [.inr (.inl 0), .inl p0] 2, [], hm_w s, 0, 0) = some (some (.inl (fn10_type s p0).1), hm_w (fn10_type s p0).2) := by
  unfold wp10_type at hp
  refine am_if (c := p0 = (10 : Int32)) (fun h1 => ?_) (fun h1 => ?_)
  · have q1 := hp.1 h1
    refine am_if (c := (hm_typed (hu_thrown s (0 : Int32))) = (40 : Int32)) (fun h2 => ?_) (fun h2 => ?_)
    · have e : fn10_type s p0 = ((0 : Int32), (hu_thrown s (0 : Int32))) := by
        unfold fn10_type
        rw [if_pos h1, if_pos h2]
      rw [e] <;> rfl
    · have q2 := q1.2 h2
      refine am_ci (c := am_inb (hm_typed (hu_thrown s (0 : Int32))) 40 = true) q2 ?_
      have e : fn10_type s p0 = ((1 : Int32), (hu_typed (hu_row (hu_thrown s (0 : Int32)) (upd (hm_row (hu_thrown s (0 : Int32))) ((hm_typed (hu_thrown s (0 : Int32)))).toNatClampNeg (vp_nar .char p0))) ((hm_typed (hu_row (hu_thrown s (0 : Int32)) (upd (hm_row (hu_thrown s (0 : Int32))) ((hm_typed (hu_thrown s (0 : Int32)))).toNatClampNeg (vp_nar .char p0)))) + (1 : Int32)))) := by
        unfold fn10_type
        rw [if_pos h1, if_neg h2]
      rw [e] <;> rfl
  · have q1 := hp.2 h1
    refine am_if (c := p0 < (32 : Int32)) (fun h2 => ?_) (fun h2 => ?_)
    · have e : fn10_type s p0 = ((0 : Int32), (hu_thrown s (0 : Int32))) := by
        unfold fn10_type
        rw [if_neg h1, if_pos h2]
      rw [e] <;> rfl
    · have q2 := q1.2 h2
      refine am_if (c := (126 : Int32) < p0) (fun h3 => ?_) (fun h3 => ?_)
      · have e : fn10_type s p0 = ((0 : Int32), (hu_thrown s (0 : Int32))) := by
          unfold fn10_type
          rw [if_neg h1, if_neg h2, if_pos h3]
        rw [e] <;> rfl
      · have q3 := q2.2 h3
        refine am_if (c := (hm_typed (hu_thrown s (0 : Int32))) = (40 : Int32)) (fun h4 => ?_) (fun h4 => ?_)
        · have e : fn10_type s p0 = ((0 : Int32), (hu_thrown s (0 : Int32))) := by
            unfold fn10_type
            rw [if_neg h1, if_neg h2, if_neg h3, if_pos h4]
          rw [e] <;> rfl
        · have q4 := q3.2 h4
          refine am_ci (c := am_inb (hm_typed (hu_thrown s (0 : Int32))) 40 = true) q4 ?_
          have e : fn10_type s p0 = ((1 : Int32), (hu_typed (hu_row (hu_thrown s (0 : Int32)) (upd (hm_row (hu_thrown s (0 : Int32))) ((hm_typed (hu_thrown s (0 : Int32)))).toNatClampNeg (vp_nar .char p0))) ((hm_typed (hu_row (hu_thrown s (0 : Int32)) (upd (hm_row (hu_thrown s (0 : Int32))) ((hm_typed (hu_thrown s (0 : Int32)))).toNatClampNeg (vp_nar .char p0)))) + (1 : Int32)))) := by
            unfold fn10_type
            rw [if_neg h1, if_neg h2, if_neg h3, if_neg h4]
          rw [e] <;> rfl
abbrev pr10_type : List am_V → List am_C → Prop := hm_pr (fun s is => match is with
  | [p0] => wp10_type s p0
  | _ => False)
def fm10_type : am_M := hm_fn (fun s is => match is with
  | [p0] => fn10_type s p0
  | _ => (0, s))
set_option maxRecDepth 100000 in
set_option maxHeartbeats 4000000 in
theorem rn10_type : ∀ (a : List am_V) (w : List am_C), pr10_type a w → ∃ n, am_ev (am_mk kb10_type (fm10_type a w).2.2.1 (fm10_type a w).2.2.2 w.length) [] n (0, am_L0 a 2, [], w, 0, 0) = some ((fm10_type a w).1, (fm10_type a w).2.1) := by
  rintro a w ⟨s, is, rfl, rfl, hp⟩
  rcases is with _ | ⟨p0, _ | ⟨z, is⟩⟩
  · exact hp.elim
  · exact ⟨1, re10_type s p0 hp⟩
  · exact hp.elim
theorem rl10_type : ∀ (a : List am_V) (w : List am_C), pr10_type a w → a.length ≤ 2 := by
  rintro a w ⟨s, is, rfl, rfl, hp⟩
  rcases is with _ | ⟨p0, _ | ⟨z, is⟩⟩
  · exact hp.elim
  · exact Nat.le_of_ble_eq_true rfl
  · exact hp.elim
set_option maxRecDepth 100000 in
set_option maxHeartbeats 4000000 in
theorem km10_type {l : Launch} {E : (Nat → Prop) → State → Prop} {D : va_G} {ou : Nat → Nat} {ca : Nat → ClassId} (hE : am_EC E) : hg_Met l E D ou ca hy10_type prog_12_method_3_code 2 (some .boolean) 0 pr10_type fm10_type := by
  refine am_met (B := kb10_type) (cuts := []) (nt := 5) (by decide +kernel) rfl rfl (hg_tys_ok ca) ?_ (by decide) rl10_type ?_ rn10_type
  · exact fun t ht => List.mem_cons_of_mem _ (hg_arr t ht)
  · intro a w hp ad p e R s m args below meth c hR X hEs hnm
    have hR1 : 0 ≤ R.frames ∧ 0 ≤ R.locals := by rw [hR]; exact ⟨Nat.le_refl _, Nat.le_refl _⟩
    refine ⟨kd10_type_ok, fun index ci fi mode hq => kf10_ok X.2.2.2.2.1 (index, ci, fi, mode) (am_as_mem hq), fun index ci fs hq => (am_no hq).elim, fun x v hq => (am_no hq).elim, ?_, fun o n f hq => (am_no hq).elim, rfl, rfl, by rw [hR]; exact Nat.le_refl _, by rw [hR]; exact Nat.le_refl _⟩
    intro pc sel n0 pre0 f0 hq
    exact (am_no hq).elim
def fn10_wipe (s : hs) : Int32 × hs := ((hm_typed (hu_thrown s (0 : Int32))), (hu_typed (hu_thrown s (0 : Int32)) (0 : Int32)))
def wp10_wipe (s : hs) : Prop := True
noncomputable def ki10_wipe : List (Nat × Option (List Nat) × Nat × (List am_V → List am_C → Prop) × am_M) := []
noncomputable def kb10_wipe : am_B := (kd10_wipe, am_as kf10, hn_ty, fun _ => none, fun _ => none, am_as ki10_wipe, fun _ => none, 5, 2, (some .int))
set_option maxRecDepth 100000 in
set_option maxHeartbeats 4000000 in
theorem re10_wipe (s : hs) (hp : wp10_wipe s ) : am_ev (am_mk kb10_wipe 0 0 22) [] 1 (0, am_L0 [.inr (.inl 0)] 2, [], hm_w s, 0, 0) = some (some (.inl (fn10_wipe s ).1), hm_w (fn10_wipe s ).2) := by
  unfold wp10_wipe at hp
  rfl
abbrev pr10_wipe : List am_V → List am_C → Prop := hm_pr (fun s is => match is with
  | [] => wp10_wipe s 
  | _ => False)
def fm10_wipe : am_M := hm_fn (fun s is => match is with
  | [] => fn10_wipe s 
  | _ => (0, s))
set_option maxRecDepth 100000 in
set_option maxHeartbeats 4000000 in
theorem rn10_wipe : ∀ (a : List am_V) (w : List am_C), pr10_wipe a w → ∃ n, am_ev (am_mk kb10_wipe (fm10_wipe a w).2.2.1 (fm10_wipe a w).2.2.2 w.length) [] n (0, am_L0 a 2, [], w, 0, 0) = some ((fm10_wipe a w).1, (fm10_wipe a w).2.1) := by
  rintro a w ⟨s, is, rfl, rfl, hp⟩
  rcases is with _ | ⟨z, is⟩
  · exact ⟨1, re10_wipe s  hp⟩
  · exact hp.elim
theorem rl10_wipe : ∀ (a : List am_V) (w : List am_C), pr10_wipe a w → a.length ≤ 2 := by
  rintro a w ⟨s, is, rfl, rfl, hp⟩
  rcases is with _ | ⟨z, is⟩
  · exact Nat.le_of_ble_eq_true rfl
  · exact hp.elim
set_option maxRecDepth 100000 in
set_option maxHeartbeats 4000000 in
theorem km10_wipe {l : Launch} {E : (Nat → Prop) → State → Prop} {D : va_G} {ou : Nat → Nat} {ca : Nat → ClassId} (hE : am_EC E) : hg_Met l E D ou ca hy10_wipe prog_12_method_4_code 2 (some .int) 0 pr10_wipe fm10_wipe := by
  refine am_met (B := kb10_wipe) (cuts := []) (nt := 5) (by decide +kernel) rfl rfl (hg_tys_ok ca) ?_ (by decide) rl10_wipe ?_ rn10_wipe
  · exact fun t ht => List.mem_cons_of_mem _ (hg_arr t ht)
  · intro a w hp ad p e R s m args below meth c hR X hEs hnm
    have hR1 : 0 ≤ R.frames ∧ 0 ≤ R.locals := by rw [hR]; exact ⟨Nat.le_refl _, Nat.le_refl _⟩
    refine ⟨kd10_wipe_ok, fun index ci fi mode hq => kf10_ok X.2.2.2.2.1 (index, ci, fi, mode) (am_as_mem hq), fun index ci fs hq => (am_no hq).elim, fun x v hq => (am_no hq).elim, ?_, fun o n f hq => (am_no hq).elim, rfl, rfl, by rw [hR]; exact Nat.le_refl _, by rw [hR]; exact Nat.le_refl _⟩
    intro pc sel n0 pre0 f0 hq
    exact (am_no hq).elim
def fn10_clear (s : hs) : Int32 × hs := ((hm_length (hu_thrown s (0 : Int32))), (hu_compiled (hu_length (hu_thrown s (0 : Int32)) (0 : Int32)) (0 : Int32)))
def wp10_clear (s : hs) : Prop := True
noncomputable def ki10_clear : List (Nat × Option (List Nat) × Nat × (List am_V → List am_C → Prop) × am_M) := []
noncomputable def kb10_clear : am_B := (kd10_clear, am_as kf10, hn_ty, fun _ => none, fun _ => none, am_as ki10_clear, fun _ => none, 5, 2, (some .int))
set_option maxRecDepth 100000 in
set_option maxHeartbeats 4000000 in
theorem re10_clear (s : hs) (hp : wp10_clear s ) : am_ev (am_mk kb10_clear 0 0 22) [] 1 (0, am_L0 [.inr (.inl 0)] 2, [], hm_w s, 0, 0) = some (some (.inl (fn10_clear s ).1), hm_w (fn10_clear s ).2) := by
  unfold wp10_clear at hp
  rfl
abbrev pr10_clear : List am_V → List am_C → Prop := hm_pr (fun s is => match is with
  | [] => wp10_clear s 
  | _ => False)
def fm10_clear : am_M := hm_fn (fun s is => match is with
  | [] => fn10_clear s 
  | _ => (0, s))
set_option maxRecDepth 100000 in
set_option maxHeartbeats 4000000 in
theorem rn10_clear : ∀ (a : List am_V) (w : List am_C), pr10_clear a w → ∃ n, am_ev (am_mk kb10_clear (fm10_clear a w).2.2.1 (fm10_clear a w).2.2.2 w.length) [] n (0, am_L0 a 2, [], w, 0, 0) = some ((fm10_clear a w).1, (fm10_clear a w).2.1) := by
  rintro a w ⟨s, is, rfl, rfl, hp⟩
  rcases is with _ | ⟨z, is⟩
  · exact ⟨1, re10_clear s  hp⟩
  · exact hp.elim
theorem rl10_clear : ∀ (a : List am_V) (w : List am_C), pr10_clear a w → a.length ≤ 2 := by
  rintro a w ⟨s, is, rfl, rfl, hp⟩
  rcases is with _ | ⟨z, is⟩
  · exact Nat.le_of_ble_eq_true rfl
  · exact hp.elim
set_option maxRecDepth 100000 in
set_option maxHeartbeats 4000000 in
theorem km10_clear {l : Launch} {E : (Nat → Prop) → State → Prop} {D : va_G} {ou : Nat → Nat} {ca : Nat → ClassId} (hE : am_EC E) : hg_Met l E D ou ca hy10_clear prog_12_method_6_code 2 (some .int) 0 pr10_clear fm10_clear := by
  refine am_met (B := kb10_clear) (cuts := []) (nt := 5) (by decide +kernel) rfl rfl (hg_tys_ok ca) ?_ (by decide) rl10_clear ?_ rn10_clear
  · exact fun t ht => List.mem_cons_of_mem _ (hg_arr t ht)
  · intro a w hp ad p e R s m args below meth c hR X hEs hnm
    have hR1 : 0 ≤ R.frames ∧ 0 ≤ R.locals := by rw [hR]; exact ⟨Nat.le_refl _, Nat.le_refl _⟩
    refine ⟨kd10_clear_ok, fun index ci fi mode hq => kf10_ok X.2.2.2.2.1 (index, ci, fi, mode) (am_as_mem hq), fun index ci fs hq => (am_no hq).elim, fun x v hq => (am_no hq).elim, ?_, fun o n f hq => (am_no hq).elim, rfl, rfl, by rw [hR]; exact Nat.le_refl _, by rw [hR]; exact Nat.le_refl _⟩
    intro pc sel n0 pre0 f0 hq
    exact (am_no hq).elim
def fn10_isVariable (p0 : Int32) : Int32 := (if p0 < (97 : Int32) then (0 : Int32) else (if (104 : Int32) < p0 then (0 : Int32) else (1 : Int32)))
def wp10_isVariable (p0 : Int32) : Prop := True
noncomputable def ki10_isVariable : List (Nat × Option (List Nat) × Nat × (List am_V → List am_C → Prop) × am_M) := []
noncomputable def kb10_isVariable : am_B := (kd10_isVariable, am_as kf10, hn_ty, fun _ => none, fun _ => none, am_as ki10_isVariable, fun _ => none, 5, 1, (some .boolean))
set_option maxRecDepth 100000 in
set_option maxHeartbeats 4000000 in
theorem re10_isVariable (p0 : Int32) (hp : wp10_isVariable p0) : am_ev (am_mk kb10_isVariable 0 0 0) [] 1 (0, am_L0 [.inl p0] 1, [], [], 0, 0) = some (some (.inl (fn10_isVariable p0)), []) := by
  unfold wp10_isVariable at hp
  refine am_if (c := p0 < (97 : Int32)) (fun h1 => ?_) (fun h1 => ?_)
  · have e : fn10_isVariable p0 = (0 : Int32) := by
      unfold fn10_isVariable
      rw [if_pos h1]
    rw [e] <;> rfl
  · refine am_if (c := (104 : Int32) < p0) (fun h2 => ?_) (fun h2 => ?_)
    · have e : fn10_isVariable p0 = (0 : Int32) := by
        unfold fn10_isVariable
        rw [if_neg h1, if_pos h2]
      rw [e] <;> rfl
    · have e : fn10_isVariable p0 = (1 : Int32) := by
        unfold fn10_isVariable
        rw [if_neg h1, if_neg h2]
      rw [e] <;> rfl
abbrev pr10_isVariable : List am_V → List am_C → Prop := hz_pr (fun is => match is with
  | [p0] => wp10_isVariable p0
  | _ => False)
def fm10_isVariable : am_M := hz_fn (fun is => match is with
  | [p0] => fn10_isVariable p0
  | _ => 0)
set_option maxRecDepth 100000 in
set_option maxHeartbeats 4000000 in
theorem rn10_isVariable : ∀ (a : List am_V) (w : List am_C), pr10_isVariable a w → ∃ n, am_ev (am_mk kb10_isVariable (fm10_isVariable a w).2.2.1 (fm10_isVariable a w).2.2.2 w.length) [] n (0, am_L0 a 1, [], w, 0, 0) = some ((fm10_isVariable a w).1, (fm10_isVariable a w).2.1) := by
  rintro a w ⟨is, rfl, rfl, hp⟩
  rcases is with _ | ⟨p0, _ | ⟨z, is⟩⟩
  · exact hp.elim
  · exact ⟨1, re10_isVariable p0 hp⟩
  · exact hp.elim
theorem rl10_isVariable : ∀ (a : List am_V) (w : List am_C), pr10_isVariable a w → a.length ≤ 1 := by
  rintro a w ⟨is, rfl, rfl, hp⟩
  rcases is with _ | ⟨p0, _ | ⟨z, is⟩⟩
  · exact hp.elim
  · exact Nat.le_of_ble_eq_true rfl
  · exact hp.elim
set_option maxRecDepth 100000 in
set_option maxHeartbeats 4000000 in
theorem km10_isVariable {l : Launch} {E : (Nat → Prop) → State → Prop} {D : va_G} {ou : Nat → Nat} {ca : Nat → ClassId} (hE : am_EC E) : hg_Met l E D ou ca hy10_isVariable prog_12_method_8_code 1 (some .boolean) 0 pr10_isVariable fm10_isVariable := by
  refine am_met (B := kb10_isVariable) (cuts := []) (nt := 5) (by decide +kernel) rfl rfl (hg_tys_ok ca) ?_ (by decide) rl10_isVariable ?_ rn10_isVariable
  · exact fun t ht => List.mem_cons_of_mem _ (hg_arr t ht)
  · intro a w hp ad p e R s m args below meth c hR X hEs hnm
    have hR1 : 0 ≤ R.frames ∧ 0 ≤ R.locals := by rw [hR]; exact ⟨Nat.le_refl _, Nat.le_refl _⟩
    refine ⟨kd10_isVariable_ok, fun index ci fi mode hq => kf10_ok X.2.2.2.2.1 (index, ci, fi, mode) (am_as_mem hq), fun index ci fs hq => (am_no hq).elim, fun x v hq => (am_no hq).elim, ?_, fun o n f hq => (am_no hq).elim, rfl, rfl, by rw [hR]; exact Nat.le_refl _, by rw [hR]; exact Nat.le_refl _⟩
    intro pc sel n0 pre0 f0 hq
    exact (am_no hq).elim
def fn10_ch (s : hs) (p0 : Int32) : Int32 := (if (hm_symbols s) ≤ p0 then (0 : Int32) else (if ((hm_sort s) (p0).toNatClampNeg) = 0 then ((hm_sign s) (p0).toNatClampNeg) else (0 : Int32)))
def wp10_ch (s : hs) (p0 : Int32) : Prop := (((hm_symbols s) ≤ p0 → True) ∧ (¬ (hm_symbols s) ≤ p0 → (am_inb p0 240 = true ∧ ((((hm_sort s) (p0).toNatClampNeg) = 0 → (am_inb p0 240 = true ∧ (am_fit .char (.inl ((hm_sign s) (p0).toNatClampNeg)) = true))) ∧ (¬ ((hm_sort s) (p0).toNatClampNeg) = 0 → True)))))
noncomputable def ki10_ch : List (Nat × Option (List Nat) × Nat × (List am_V → List am_C → Prop) × am_M) := []
noncomputable def kb10_ch : am_B := (kd10_ch, am_as kf10, hn_ty, fun _ => none, fun _ => none, am_as ki10_ch, fun _ => none, 5, 2, (some .char))
set_option maxRecDepth 100000 in
set_option maxHeartbeats 4000000 in
theorem re10_ch (s : hs) (p0 : Int32) (hp : wp10_ch s p0) : am_ev (am_mk kb10_ch 0 0 22) [] 1 (0, am_L0 [.inr (.inl 0), .inl p0] 2, [], hm_w s, 0, 0) = some (some (.inl (fn10_ch s p0)), hm_w s) := by
  unfold wp10_ch at hp
  refine am_if (c := (hm_symbols s) ≤ p0) (fun h1 => ?_) (fun h1 => ?_)
  · have e : fn10_ch s p0 = (0 : Int32) := by
      unfold fn10_ch
      rw [if_pos h1]
    rw [e] <;> rfl
  · have q1 := hp.2 h1
    refine am_ci (c := am_inb p0 240 = true) q1.1 ?_
    refine am_if (c := ((hm_sort s) (p0).toNatClampNeg) = 0) (fun h2 => ?_) (fun h2 => ?_)
    · have q2 := q1.2.1 h2
      refine am_ci (c := am_inb p0 240 = true) q2.1 ?_
      refine am_ci (c := am_fit .char (.inl ((hm_sign s) (p0).toNatClampNeg)) = true) q2.2 ?_
      have e : fn10_ch s p0 = ((hm_sign s) (p0).toNatClampNeg) := by
        unfold fn10_ch
        rw [if_neg h1, if_pos h2]
      rw [e] <;> rfl
    · have e : fn10_ch s p0 = (0 : Int32) := by
        unfold fn10_ch
        rw [if_neg h1, if_neg h2]
      rw [e] <;> rfl
abbrev pr10_ch : List am_V → List am_C → Prop := hm_pr (fun s is => match is with
  | [p0] => wp10_ch s p0
  | _ => False)
def fm10_ch : am_M := hm_fn (fun s is => match is with
  | [p0] => (fn10_ch s p0, s)
  | _ => (0, s))
set_option maxRecDepth 100000 in
set_option maxHeartbeats 4000000 in
theorem rn10_ch : ∀ (a : List am_V) (w : List am_C), pr10_ch a w → ∃ n, am_ev (am_mk kb10_ch (fm10_ch a w).2.2.1 (fm10_ch a w).2.2.2 w.length) [] n (0, am_L0 a 2, [], w, 0, 0) = some ((fm10_ch a w).1, (fm10_ch a w).2.1) := by
  rintro a w ⟨s, is, rfl, rfl, hp⟩
  rcases is with _ | ⟨p0, _ | ⟨z, is⟩⟩
  · exact hp.elim
  · exact ⟨1, re10_ch s p0 hp⟩
  · exact hp.elim
theorem rl10_ch : ∀ (a : List am_V) (w : List am_C), pr10_ch a w → a.length ≤ 2 := by
  rintro a w ⟨s, is, rfl, rfl, hp⟩
  rcases is with _ | ⟨p0, _ | ⟨z, is⟩⟩
  · exact hp.elim
  · exact Nat.le_of_ble_eq_true rfl
  · exact hp.elim
set_option maxRecDepth 100000 in
set_option maxHeartbeats 4000000 in
theorem km10_ch {l : Launch} {E : (Nat → Prop) → State → Prop} {D : va_G} {ou : Nat → Nat} {ca : Nat → ClassId} (hE : am_EC E) : hg_Met l E D ou ca hy10_ch prog_12_method_12_code 2 (some .char) 0 pr10_ch fm10_ch := by
  refine am_met (B := kb10_ch) (cuts := []) (nt := 5) (by decide +kernel) rfl rfl (hg_tys_ok ca) ?_ (by decide) rl10_ch ?_ rn10_ch
  · exact fun t ht => List.mem_cons_of_mem _ (hg_arr t ht)
  · intro a w hp ad p e R s m args below meth c hR X hEs hnm
    have hR1 : 0 ≤ R.frames ∧ 0 ≤ R.locals := by rw [hR]; exact ⟨Nat.le_refl _, Nat.le_refl _⟩
    refine ⟨kd10_ch_ok, fun index ci fi mode hq => kf10_ok X.2.2.2.2.1 (index, ci, fi, mode) (am_as_mem hq), fun index ci fs hq => (am_no hq).elim, fun x v hq => (am_no hq).elim, ?_, fun o n f hq => (am_no hq).elim, rfl, rfl, by rw [hR]; exact Nat.le_refl _, by rw [hR]; exact Nat.le_refl _⟩
    intro pc sel n0 pre0 f0 hq
    exact (am_no hq).elim
def fn10_isLetter (p0 : Int32) : Int32 := (if p0 < (97 : Int32) then (0 : Int32) else (if (122 : Int32) < p0 then (0 : Int32) else (1 : Int32)))
def wp10_isLetter (p0 : Int32) : Prop := True
noncomputable def ki10_isLetter : List (Nat × Option (List Nat) × Nat × (List am_V → List am_C → Prop) × am_M) := []
noncomputable def kb10_isLetter : am_B := (kd10_isLetter, am_as kf10, hn_ty, fun _ => none, fun _ => none, am_as ki10_isLetter, fun _ => none, 5, 1, (some .boolean))
set_option maxRecDepth 100000 in
set_option maxHeartbeats 4000000 in
theorem re10_isLetter (p0 : Int32) (hp : wp10_isLetter p0) : am_ev (am_mk kb10_isLetter 0 0 0) [] 1 (0, am_L0 [.inl p0] 1, [], [], 0, 0) = some (some (.inl (fn10_isLetter p0)), []) := by
  unfold wp10_isLetter at hp
  refine am_if (c := p0 < (97 : Int32)) (fun h1 => ?_) (fun h1 => ?_)
  · have e : fn10_isLetter p0 = (0 : Int32) := by
      unfold fn10_isLetter
      rw [if_pos h1]
    rw [e] <;> rfl
  · refine am_if (c := (122 : Int32) < p0) (fun h2 => ?_) (fun h2 => ?_)
    · have e : fn10_isLetter p0 = (0 : Int32) := by
        unfold fn10_isLetter
        rw [if_neg h1, if_pos h2]
      rw [e] <;> rfl
    · have e : fn10_isLetter p0 = (1 : Int32) := by
        unfold fn10_isLetter
        rw [if_neg h1, if_neg h2]
      rw [e] <;> rfl
abbrev pr10_isLetter : List am_V → List am_C → Prop := hz_pr (fun is => match is with
  | [p0] => wp10_isLetter p0
  | _ => False)
def fm10_isLetter : am_M := hz_fn (fun is => match is with
  | [p0] => fn10_isLetter p0
  | _ => 0)
set_option maxRecDepth 100000 in
set_option maxHeartbeats 4000000 in
theorem rn10_isLetter : ∀ (a : List am_V) (w : List am_C), pr10_isLetter a w → ∃ n, am_ev (am_mk kb10_isLetter (fm10_isLetter a w).2.2.1 (fm10_isLetter a w).2.2.2 w.length) [] n (0, am_L0 a 1, [], w, 0, 0) = some ((fm10_isLetter a w).1, (fm10_isLetter a w).2.1) := by
  rintro a w ⟨is, rfl, rfl, hp⟩
  rcases is with _ | ⟨p0, _ | ⟨z, is⟩⟩
  · exact hp.elim
  · exact ⟨1, re10_isLetter p0 hp⟩
  · exact hp.elim
theorem rl10_isLetter : ∀ (a : List am_V) (w : List am_C), pr10_isLetter a w → a.length ≤ 1 := by
  rintro a w ⟨is, rfl, rfl, hp⟩
  rcases is with _ | ⟨p0, _ | ⟨z, is⟩⟩
  · exact hp.elim
  · exact Nat.le_of_ble_eq_true rfl
  · exact hp.elim
set_option maxRecDepth 100000 in
set_option maxHeartbeats 4000000 in
theorem km10_isLetter {l : Launch} {E : (Nat → Prop) → State → Prop} {D : va_G} {ou : Nat → Nat} {ca : Nat → ClassId} (hE : am_EC E) : hg_Met l E D ou ca hy10_isLetter prog_12_method_13_code 1 (some .boolean) 0 pr10_isLetter fm10_isLetter := by
  refine am_met (B := kb10_isLetter) (cuts := []) (nt := 5) (by decide +kernel) rfl rfl (hg_tys_ok ca) ?_ (by decide) rl10_isLetter ?_ rn10_isLetter
  · exact fun t ht => List.mem_cons_of_mem _ (hg_arr t ht)
  · intro a w hp ad p e R s m args below meth c hR X hEs hnm
    have hR1 : 0 ≤ R.frames ∧ 0 ≤ R.locals := by rw [hR]; exact ⟨Nat.le_refl _, Nat.le_refl _⟩
    refine ⟨kd10_isLetter_ok, fun index ci fi mode hq => kf10_ok X.2.2.2.2.1 (index, ci, fi, mode) (am_as_mem hq), fun index ci fs hq => (am_no hq).elim, fun x v hq => (am_no hq).elim, ?_, fun o n f hq => (am_no hq).elim, rfl, rfl, by rw [hR]; exact Nat.le_refl _, by rw [hR]; exact Nat.le_refl _⟩
    intro pc sel n0 pre0 f0 hq
    exact (am_no hq).elim
def fn10_isWord (p0 : Int32) : Int32 := (if (fn10_isLetter p0) = 0 then (if p0 < (65 : Int32) then (if p0 < (48 : Int32) then (0 : Int32) else (if (57 : Int32) < p0 then (0 : Int32) else (1 : Int32))) else (if p0 ≤ (90 : Int32) then (1 : Int32) else (if p0 < (48 : Int32) then (0 : Int32) else (if (57 : Int32) < p0 then (0 : Int32) else (1 : Int32))))) else (1 : Int32))
def wp10_isWord (p0 : Int32) : Prop := (wp10_isLetter p0)
noncomputable def ki10_isWord : List (Nat × Option (List Nat) × Nat × (List am_V → List am_C → Prop) × am_M) := [(1, some [], 1, pr10_isLetter, fm10_isLetter)]
noncomputable def kb10_isWord : am_B := (kd10_isWord, am_as kf10, hn_ty, fun _ => none, fun _ => none, am_as ki10_isWord, fun _ => none, 5, 1, (some .boolean))
set_option maxRecDepth 100000 in
set_option maxHeartbeats 4000000 in
theorem re10_isWord (p0 : Int32) (hp : wp10_isWord p0) : am_ev (am_mk kb10_isWord 0 0 0) [] 1 (0, am_L0 [.inl p0] 1, [], [], 0, 0) = some (some (.inl (fn10_isWord p0)), []) := by
  unfold wp10_isWord at hp
  refine am_cy (pre := pr10_isLetter) (f := fm10_isLetter) (r := (some (.inl (fn10_isLetter p0)), [], 0, 0)) ?_ ?_ ?_
  · exact ⟨[p0], rfl, rfl, hp⟩
  · rfl
  refine am_if (c := (fn10_isLetter p0) = 0) (fun h1 => ?_) (fun h1 => ?_)
  · refine am_if (c := p0 < (65 : Int32)) (fun h2 => ?_) (fun h2 => ?_)
    · refine am_if (c := p0 < (48 : Int32)) (fun h3 => ?_) (fun h3 => ?_)
      · have e : fn10_isWord p0 = (0 : Int32) := by
          unfold fn10_isWord
          rw [if_pos h1, if_pos h2, if_pos h3]
        rw [e] <;> rfl
      · refine am_if (c := (57 : Int32) < p0) (fun h4 => ?_) (fun h4 => ?_)
        · have e : fn10_isWord p0 = (0 : Int32) := by
            unfold fn10_isWord
            rw [if_pos h1, if_pos h2, if_neg h3, if_pos h4]
          rw [e] <;> rfl
        · have e : fn10_isWord p0 = (1 : Int32) := by
            unfold fn10_isWord
            rw [if_pos h1, if_pos h2, if_neg h3, if_neg h4]
          rw [e] <;> rfl
    · refine am_if (c := p0 ≤ (90 : Int32)) (fun h3 => ?_) (fun h3 => ?_)
      · have e : fn10_isWord p0 = (1 : Int32) := by
          unfold fn10_isWord
          rw [if_pos h1, if_neg h2, if_pos h3]
        rw [e] <;> rfl
      · refine am_if (c := p0 < (48 : Int32)) (fun h4 => ?_) (fun h4 => ?_)
        · have e : fn10_isWord p0 = (0 : Int32) := by
            unfold fn10_isWord
            rw [if_pos h1, if_neg h2, if_neg h3, if_pos h4]
          rw [e] <;> rfl
        · refine am_if (c := (57 : Int32) < p0) (fun h5 => ?_) (fun h5 => ?_)
          · have e : fn10_isWord p0 = (0 : Int32) := by
              unfold fn10_isWord
              rw [if_pos h1, if_neg h2, if_neg h3, if_neg h4, if_pos h5]
            rw [e] <;> rfl
          · have e : fn10_isWord p0 = (1 : Int32) := by
              unfold fn10_isWord
              rw [if_pos h1, if_neg h2, if_neg h3, if_neg h4, if_neg h5]
            rw [e] <;> rfl
  · have e : fn10_isWord p0 = (1 : Int32) := by
      unfold fn10_isWord
      rw [if_neg h1]
    rw [e] <;> rfl
abbrev pr10_isWord : List am_V → List am_C → Prop := hz_pr (fun is => match is with
  | [p0] => wp10_isWord p0
  | _ => False)
def fm10_isWord : am_M := hz_fn (fun is => match is with
  | [p0] => fn10_isWord p0
  | _ => 0)
set_option maxRecDepth 100000 in
set_option maxHeartbeats 4000000 in
theorem rn10_isWord : ∀ (a : List am_V) (w : List am_C), pr10_isWord a w → ∃ n, am_ev (am_mk kb10_isWord (fm10_isWord a w).2.2.1 (fm10_isWord a w).2.2.2 w.length) [] n (0, am_L0 a 1, [], w, 0, 0) = some ((fm10_isWord a w).1, (fm10_isWord a w).2.1) := by
  rintro a w ⟨is, rfl, rfl, hp⟩
  rcases is with _ | ⟨p0, _ | ⟨z, is⟩⟩
  · exact hp.elim
  · exact ⟨1, re10_isWord p0 hp⟩
  · exact hp.elim
theorem rl10_isWord : ∀ (a : List am_V) (w : List am_C), pr10_isWord a w → a.length ≤ 1 := by
  rintro a w ⟨is, rfl, rfl, hp⟩
  rcases is with _ | ⟨p0, _ | ⟨z, is⟩⟩
  · exact hp.elim
  · exact Nat.le_of_ble_eq_true rfl
  · exact hp.elim
set_option maxRecDepth 100000 in
set_option maxHeartbeats 4000000 in
theorem km10_isWord {l : Launch} {E : (Nat → Prop) → State → Prop} {D : va_G} {ou : Nat → Nat} {ca : Nat → ClassId} (hE : am_EC E) : hg_Met l E D ou ca hy10_isWord prog_12_method_14_code 1 (some .boolean) 1 pr10_isWord fm10_isWord := by
  refine am_met (B := kb10_isWord) (cuts := []) (nt := 5) (by decide +kernel) rfl rfl (hg_tys_ok ca) ?_ (by decide) rl10_isWord ?_ rn10_isWord
  · exact fun t ht => List.mem_cons_of_mem _ (hg_arr t ht)
  · intro a w hp ad p e R s m args below meth c hR X hEs hnm
    have hR1 : 1 ≤ R.frames ∧ 40 ≤ R.locals := by rw [hR]; exact ⟨Nat.le_refl _, Nat.le_refl _⟩
    refine ⟨kd10_isWord_ok, fun index ci fi mode hq => kf10_ok X.2.2.2.2.1 (index, ci, fi, mode) (am_as_mem hq), fun index ci fs hq => (am_no hq).elim, fun x v hq => (am_no hq).elim, ?_, fun o n f hq => (am_no hq).elim, rfl, rfl, by rw [hR]; exact Nat.le_refl _, by rw [hR]; exact Nat.le_refl _⟩
    intro pc sel n0 pre0 f0 hq
    have hz : ∀ q ∈ ki10_isWord, am_CK p l e R s m args below meth c D hn_cl (va_A (am_w ad ou ca w) s.heap.size) ou ca 1 q.1 q.2.2.1 q.2.2.2.1 q.2.2.2.2 := by
      refine am_allc (am_ck_S (n := 1) X hEs hE (km10_isLetter hE) (hg_good (gw_mem 1157 (by decide +kernel))) rfl (List.mem_cons_of_mem _ (gw_mem 76 (by decide +kernel))) (List.mem_cons_of_mem _ (gw_mem 1155 (by decide +kernel))) (List.mem_cons_of_mem _ (gw_mem 1156 (by decide +kernel))) (by decide +kernel) ⟨Nat.le_trans (by decide) hR1.1, Nat.le_trans (by decide) hR1.2⟩ (kd10_isWord_ok (1, .invokestatic 111, 3) (List.mem_of_getElem? (i := 1) rfl))) (am_all0)
    exact hz _ (am_as_mem hq)
def fn10_isBlank (p0 : Int32) : Int32 := (if p0 = (32 : Int32) then (1 : Int32) else (if p0 = (10 : Int32) then (1 : Int32) else (0 : Int32)))
def wp10_isBlank (p0 : Int32) : Prop := True
noncomputable def ki10_isBlank : List (Nat × Option (List Nat) × Nat × (List am_V → List am_C → Prop) × am_M) := []
noncomputable def kb10_isBlank : am_B := (kd10_isBlank, am_as kf10, hn_ty, fun _ => none, fun _ => none, am_as ki10_isBlank, fun _ => none, 5, 1, (some .boolean))
set_option maxRecDepth 100000 in
set_option maxHeartbeats 4000000 in
theorem re10_isBlank (p0 : Int32) (hp : wp10_isBlank p0) : am_ev (am_mk kb10_isBlank 0 0 0) [] 1 (0, am_L0 [.inl p0] 1, [], [], 0, 0) = some (some (.inl (fn10_isBlank p0)), []) := by
  unfold wp10_isBlank at hp
  refine am_if (c := p0 = (32 : Int32)) (fun h1 => ?_) (fun h1 => ?_)
  · have e : fn10_isBlank p0 = (1 : Int32) := by
      unfold fn10_isBlank
      rw [if_pos h1]
    rw [e] <;> rfl
  · refine am_if (c := p0 = (10 : Int32)) (fun h2 => ?_) (fun h2 => ?_)
    · have e : fn10_isBlank p0 = (1 : Int32) := by
        unfold fn10_isBlank
        rw [if_neg h1, if_pos h2]
      rw [e] <;> rfl
    · have e : fn10_isBlank p0 = (0 : Int32) := by
        unfold fn10_isBlank
        rw [if_neg h1, if_neg h2]
      rw [e] <;> rfl
abbrev pr10_isBlank : List am_V → List am_C → Prop := hz_pr (fun is => match is with
  | [p0] => wp10_isBlank p0
  | _ => False)
def fm10_isBlank : am_M := hz_fn (fun is => match is with
  | [p0] => fn10_isBlank p0
  | _ => 0)
set_option maxRecDepth 100000 in
set_option maxHeartbeats 4000000 in
theorem rn10_isBlank : ∀ (a : List am_V) (w : List am_C), pr10_isBlank a w → ∃ n, am_ev (am_mk kb10_isBlank (fm10_isBlank a w).2.2.1 (fm10_isBlank a w).2.2.2 w.length) [] n (0, am_L0 a 1, [], w, 0, 0) = some ((fm10_isBlank a w).1, (fm10_isBlank a w).2.1) := by
  rintro a w ⟨is, rfl, rfl, hp⟩
  rcases is with _ | ⟨p0, _ | ⟨z, is⟩⟩
  · exact hp.elim
  · exact ⟨1, re10_isBlank p0 hp⟩
  · exact hp.elim
theorem rl10_isBlank : ∀ (a : List am_V) (w : List am_C), pr10_isBlank a w → a.length ≤ 1 := by
  rintro a w ⟨is, rfl, rfl, hp⟩
  rcases is with _ | ⟨p0, _ | ⟨z, is⟩⟩
  · exact hp.elim
  · exact Nat.le_of_ble_eq_true rfl
  · exact hp.elim
set_option maxRecDepth 100000 in
set_option maxHeartbeats 4000000 in
theorem km10_isBlank {l : Launch} {E : (Nat → Prop) → State → Prop} {D : va_G} {ou : Nat → Nat} {ca : Nat → ClassId} (hE : am_EC E) : hg_Met l E D ou ca hy10_isBlank prog_12_method_15_code 1 (some .boolean) 0 pr10_isBlank fm10_isBlank := by
  refine am_met (B := kb10_isBlank) (cuts := []) (nt := 5) (by decide +kernel) rfl rfl (hg_tys_ok ca) ?_ (by decide) rl10_isBlank ?_ rn10_isBlank
  · exact fun t ht => List.mem_cons_of_mem _ (hg_arr t ht)
  · intro a w hp ad p e R s m args below meth c hR X hEs hnm
    have hR1 : 0 ≤ R.frames ∧ 0 ≤ R.locals := by rw [hR]; exact ⟨Nat.le_refl _, Nat.le_refl _⟩
    refine ⟨kd10_isBlank_ok, fun index ci fi mode hq => kf10_ok X.2.2.2.2.1 (index, ci, fi, mode) (am_as_mem hq), fun index ci fs hq => (am_no hq).elim, fun x v hq => (am_no hq).elim, ?_, fun o n f hq => (am_no hq).elim, rfl, rfl, by rw [hR]; exact Nat.le_refl _, by rw [hR]; exact Nat.le_refl _⟩
    intro pc sel n0 pre0 f0 hq
    exact (am_no hq).elim
def fn10_lettersFrom_l : Nat → hs → Int32 → Int32 → Int32
  | 0, _, _, _ => 0
  | n + 1, s, v1, v2 => (if (fn10_isLetter (fn10_ch s (v1 + v2))) = 0 then v2 else (fn10_lettersFrom_l n s v1 (v2 + (1 : Int32))))
def wp10_lettersFrom_l : Nat → hs → Int32 → Int32 → Prop
  | 0, _, _, _ => False
  | n + 1, s, v1, v2 => ((wp10_ch s (v1 + v2)) ∧ ((wp10_isLetter (fn10_ch s (v1 + v2))) ∧ (((fn10_isLetter (fn10_ch s (v1 + v2))) = 0 → True) ∧ (¬ (fn10_isLetter (fn10_ch s (v1 + v2))) = 0 → (wp10_lettersFrom_l n s v1 (v2 + (1 : Int32)))))))
def fn10_lettersFrom_e (fu : Nat) (s : hs) (p0 : Int32) : Int32 := (fn10_lettersFrom_l fu s p0 (0 : Int32))
def wp10_lettersFrom_e (fu : Nat) (s : hs) (p0 : Int32) : Prop := (wp10_lettersFrom_l fu s p0 (0 : Int32))
def fn10_lettersFrom (s : hs) (p0 : Int32) : Int32 := fn10_lettersFrom_e 1000 s p0
def wp10_lettersFrom (s : hs) (p0 : Int32) : Prop := wp10_lettersFrom_e 1000 s p0
noncomputable def ki10_lettersFrom : List (Nat × Option (List Nat) × Nat × (List am_V → List am_C → Prop) × am_M) := [(6, none, 2, pr10_ch, fm10_ch), (9, some [], 1, pr10_isLetter, fm10_isLetter)]
noncomputable def kb10_lettersFrom : am_B := (kd10_lettersFrom, am_as kf10, hn_ty, fun _ => none, fun _ => none, am_as ki10_lettersFrom, fun _ => none, 5, 3, (some .int))
set_option maxRecDepth 100000 in
set_option maxHeartbeats 4000000 in
theorem re10_lettersFrom_l : ∀ (n : Nat) (s : hs) (v1 : Int32) (v2 : Int32) , wp10_lettersFrom_l n s v1 v2 → am_ev (am_mk kb10_lettersFrom 0 0 22) [2] n (2, [some (.inr (.inl 0)), some (.inl v1), some (.inl v2)], [], hm_w s, 0, 0) = some (some (.inl (fn10_lettersFrom_l n s v1 v2)), hm_w s) := by
  intro n
  induction n with
  | zero =>
    intro s v1 v2 hp
    exact hp.elim
  | succ n ih =>
    intro s v1 v2 hp
    unfold wp10_lettersFrom_l at hp
    rw [am_ev_s]
    generalize am_ev (am_mk kb10_lettersFrom 0 0 22) [2] n = kt at ih ⊢
    refine am_cx (pre := pr10_ch) (f := fm10_ch) (r := (some (.inl (fn10_ch s (v1 + v2))), hm_w s, 0, 0)) ?_ ?_ ?_
    · exact ⟨s, [(v1 + v2)], rfl, rfl, hp.1⟩
    · rfl
    refine am_cy (pre := pr10_isLetter) (f := fm10_isLetter) (r := (some (.inl (fn10_isLetter (fn10_ch s (v1 + v2)))), [], 0, 0)) ?_ ?_ ?_
    · exact ⟨[(fn10_ch s (v1 + v2))], rfl, rfl, hp.2.1⟩
    · rfl
    refine am_if (c := (fn10_isLetter (fn10_ch s (v1 + v2))) = 0) (fun h2 => ?_) (fun h2 => ?_)
    · have e : fn10_lettersFrom_l (n + 1) s v1 v2 = v2 := by
        rw [fn10_lettersFrom_l]
        rw [if_pos h2]
      rw [e] <;> rfl
    · have q2 := hp.2.2.2 h2
      have e : fn10_lettersFrom_l (n + 1) s v1 v2 = fn10_lettersFrom_l n s v1 (v2 + (1 : Int32)) := by
        rw [fn10_lettersFrom_l]
        rw [if_neg h2]
      rw [e]
      exact ih s v1 (v2 + (1 : Int32))  q2
set_option maxRecDepth 100000 in
set_option maxHeartbeats 4000000 in
theorem re10_lettersFrom (fu : Nat) (s : hs) (p0 : Int32) (hp : wp10_lettersFrom_e fu s p0) : am_ev (am_mk kb10_lettersFrom 0 0 22) [2] (fu + 1) (0, am_L0 [.inr (.inl 0), .inl p0] 3, [], hm_w s, 0, 0) = some (some (.inl (fn10_lettersFrom_e fu s p0)), hm_w s) := by
  unfold wp10_lettersFrom_e at hp
  unfold fn10_lettersFrom_e
  rw [am_ev_s]
  have ih := re10_lettersFrom_l fu
  generalize am_ev (am_mk kb10_lettersFrom 0 0 22) [2] fu = kt at ih ⊢
  exact ih s p0 (0 : Int32)  hp
abbrev pr10_lettersFrom : List am_V → List am_C → Prop := hm_pr (fun s is => match is with
  | [p0] => wp10_lettersFrom s p0
  | _ => False)
def fm10_lettersFrom : am_M := hm_fn (fun s is => match is with
  | [p0] => (fn10_lettersFrom s p0, s)
  | _ => (0, s))
set_option maxRecDepth 100000 in
set_option maxHeartbeats 4000000 in
theorem rn10_lettersFrom : ∀ (a : List am_V) (w : List am_C), pr10_lettersFrom a w → ∃ n, am_ev (am_mk kb10_lettersFrom (fm10_lettersFrom a w).2.2.1 (fm10_lettersFrom a w).2.2.2 w.length) [2] n (0, am_L0 a 3, [], w, 0, 0) = some ((fm10_lettersFrom a w).1, (fm10_lettersFrom a w).2.1) := by
  rintro a w ⟨s, is, rfl, rfl, hp⟩
  rcases is with _ | ⟨p0, _ | ⟨z, is⟩⟩
  · exact hp.elim
  · exact ⟨1000 + 1, re10_lettersFrom 1000 s p0 hp⟩
  · exact hp.elim
theorem rl10_lettersFrom : ∀ (a : List am_V) (w : List am_C), pr10_lettersFrom a w → a.length ≤ 3 := by
  rintro a w ⟨s, is, rfl, rfl, hp⟩
  rcases is with _ | ⟨p0, _ | ⟨z, is⟩⟩
  · exact hp.elim
  · exact Nat.le_of_ble_eq_true rfl
  · exact hp.elim
set_option maxRecDepth 100000 in
set_option maxHeartbeats 4000000 in
theorem km10_lettersFrom {l : Launch} {E : (Nat → Prop) → State → Prop} {D : va_G} {ou : Nat → Nat} {ca : Nat → ClassId} (hE : am_EC E) : hg_Met l E D ou ca hy10_lettersFrom prog_12_method_16_code 3 (some .int) 1 pr10_lettersFrom fm10_lettersFrom := by
  refine am_met (B := kb10_lettersFrom) (cuts := [2]) (nt := 5) (by decide +kernel) rfl rfl (hg_tys_ok ca) ?_ (by decide) rl10_lettersFrom ?_ rn10_lettersFrom
  · exact fun t ht => List.mem_cons_of_mem _ (hg_arr t ht)
  · intro a w hp ad p e R s m args below meth c hR X hEs hnm
    have hR1 : 1 ≤ R.frames ∧ 40 ≤ R.locals := by rw [hR]; exact ⟨Nat.le_refl _, Nat.le_refl _⟩
    refine ⟨kd10_lettersFrom_ok, fun index ci fi mode hq => kf10_ok X.2.2.2.2.1 (index, ci, fi, mode) (am_as_mem hq), fun index ci fs hq => (am_no hq).elim, fun x v hq => (am_no hq).elim, ?_, fun o n f hq => (am_no hq).elim, rfl, rfl, by rw [hR]; exact Nat.le_refl _, by rw [hR]; exact Nat.le_refl _⟩
    intro pc sel n0 pre0 f0 hq
    have hz : ∀ q ∈ ki10_lettersFrom, am_CK p l e R s m args below meth c D hn_cl (va_A (am_w ad ou ca w) s.heap.size) ou ca 3 q.1 q.2.2.1 q.2.2.2.1 q.2.2.2.2 := by
      refine am_allc (am_ck_V (n := 1) X hEs hE (km10_ch hE) (hg_good (gw_mem 1147 (by decide +kernel))) rfl (List.mem_cons_of_mem _ (gw_mem 76 (by decide +kernel))) (List.mem_cons_of_mem _ (gw_mem 1144 (by decide +kernel))) (List.mem_cons_of_mem _ (gw_mem 1146 (by decide +kernel))) (List.mem_cons_of_mem _ (gw_mem 21 (by decide +kernel))) hm_pa (by decide +kernel) ⟨Nat.le_trans (by decide) hR1.1, Nat.le_trans (by decide) hR1.2⟩ (kd10_lettersFrom_ok (6, .invokevirtual 114, 3) (List.mem_of_getElem? (i := 6) rfl))) (am_allc (am_ck_S (n := 1) X hEs hE (km10_isLetter hE) (hg_good (gw_mem 1157 (by decide +kernel))) rfl (List.mem_cons_of_mem _ (gw_mem 76 (by decide +kernel))) (List.mem_cons_of_mem _ (gw_mem 1155 (by decide +kernel))) (List.mem_cons_of_mem _ (gw_mem 1156 (by decide +kernel))) (by decide +kernel) ⟨Nat.le_trans (by decide) hR1.1, Nat.le_trans (by decide) hR1.2⟩ (kd10_lettersFrom_ok (9, .invokestatic 111, 3) (List.mem_of_getElem? (i := 7) rfl))) (am_all0))
    exact hz _ (am_as_mem hq)
def fn10_go (s : hs) (p0 : Int32) : hs := (hu_part (hu_kind (hu_quote (hu_element (hu_context s p0) (0 : Int32)) (0 : Int32)) (0 : Int32)) (0 : Int32))
def wp10_go (s : hs) (p0 : Int32) : Prop := True
noncomputable def ki10_go : List (Nat × Option (List Nat) × Nat × (List am_V → List am_C → Prop) × am_M) := []
noncomputable def kb10_go : am_B := (kd10_go, am_as kf10, hn_ty, fun _ => none, fun _ => none, am_as ki10_go, fun _ => none, 5, 2, none)
set_option maxRecDepth 100000 in
set_option maxHeartbeats 4000000 in
theorem re10_go (s : hs) (p0 : Int32) (hp : wp10_go s p0) : am_ev (am_mk kb10_go 0 0 22) [] 1 (0, am_L0 [.inr (.inl 0), .inl p0] 2, [], hm_w s, 0, 0) = some (none, hm_w (fn10_go s p0)) := by
  unfold wp10_go at hp
  rfl
abbrev pr10_go : List am_V → List am_C → Prop := hm_pr (fun s is => match is with
  | [p0] => wp10_go s p0
  | _ => False)
def fm10_go : am_M := hm_fv (fun s is => match is with
  | [p0] => fn10_go s p0
  | _ => s)
set_option maxRecDepth 100000 in
set_option maxHeartbeats 4000000 in
theorem rn10_go : ∀ (a : List am_V) (w : List am_C), pr10_go a w → ∃ n, am_ev (am_mk kb10_go (fm10_go a w).2.2.1 (fm10_go a w).2.2.2 w.length) [] n (0, am_L0 a 2, [], w, 0, 0) = some ((fm10_go a w).1, (fm10_go a w).2.1) := by
  rintro a w ⟨s, is, rfl, rfl, hp⟩
  rcases is with _ | ⟨p0, _ | ⟨z, is⟩⟩
  · exact hp.elim
  · exact ⟨1, re10_go s p0 hp⟩
  · exact hp.elim
theorem rl10_go : ∀ (a : List am_V) (w : List am_C), pr10_go a w → a.length ≤ 2 := by
  rintro a w ⟨s, is, rfl, rfl, hp⟩
  rcases is with _ | ⟨p0, _ | ⟨z, is⟩⟩
  · exact hp.elim
  · exact Nat.le_of_ble_eq_true rfl
  · exact hp.elim
set_option maxRecDepth 100000 in
set_option maxHeartbeats 4000000 in
theorem km10_go {l : Launch} {E : (Nat → Prop) → State → Prop} {D : va_G} {ou : Nat → Nat} {ca : Nat → ClassId} (hE : am_EC E) : hg_Met l E D ou ca hy10_go prog_12_method_22_code 2 none 0 pr10_go fm10_go := by
  refine am_met (B := kb10_go) (cuts := []) (nt := 5) (by decide +kernel) rfl rfl (hg_tys_ok ca) ?_ (by decide) rl10_go ?_ rn10_go
  · exact fun t ht => List.mem_cons_of_mem _ (hg_arr t ht)
  · intro a w hp ad p e R s m args below meth c hR X hEs hnm
    have hR1 : 0 ≤ R.frames ∧ 0 ≤ R.locals := by rw [hR]; exact ⟨Nat.le_refl _, Nat.le_refl _⟩
    refine ⟨kd10_go_ok, fun index ci fi mode hq => kf10_ok X.2.2.2.2.1 (index, ci, fi, mode) (am_as_mem hq), fun index ci fs hq => (am_no hq).elim, fun x v hq => (am_no hq).elim, ?_, fun o n f hq => (am_no hq).elim, rfl, rfl, by rw [hR]; exact Nat.le_refl _, by rw [hR]; exact Nat.le_refl _⟩
    intro pc sel n0 pre0 f0 hq
    exact (am_no hq).elim
def fn10_begins (s : hs) (p0 : Int32) (p1 : Int32) : Int32 := (if (fn10_ch s p0) = (60 : Int32) then (if (fn10_ch s (p0 + (1 : Int32))) = p1 then (1 : Int32) else (0 : Int32)) else (0 : Int32))
def wp10_begins (s : hs) (p0 : Int32) (p1 : Int32) : Prop := ((wp10_ch s p0) ∧ (((fn10_ch s p0) = (60 : Int32) → (wp10_ch s (p0 + (1 : Int32)))) ∧ (¬ (fn10_ch s p0) = (60 : Int32) → True)))
noncomputable def ki10_begins : List (Nat × Option (List Nat) × Nat × (List am_V → List am_C → Prop) × am_M) := [(2, none, 2, pr10_ch, fm10_ch), (14, none, 2, pr10_ch, fm10_ch)]
noncomputable def kb10_begins : am_B := (kd10_begins, am_as kf10, hn_ty, fun _ => none, fun _ => none, am_as ki10_begins, fun _ => none, 5, 3, (some .boolean))
set_option maxRecDepth 100000 in
set_option maxHeartbeats 4000000 in
theorem re10_begins (s : hs) (p0 : Int32) (p1 : Int32) (hp : wp10_begins s p0 p1) : am_ev (am_mk kb10_begins 0 0 22) [] 1 (0, am_L0 [.inr (.inl 0), .inl p0, .inl p1] 3, [], hm_w s, 0, 0) = some (some (.inl (fn10_begins s p0 p1)), hm_w s) := by
  unfold wp10_begins at hp
  refine am_cx (pre := pr10_ch) (f := fm10_ch) (r := (some (.inl (fn10_ch s p0)), hm_w s, 0, 0)) ?_ ?_ ?_
  · exact ⟨s, [p0], rfl, rfl, hp.1⟩
  · rfl
  refine am_if (c := (fn10_ch s p0) = (60 : Int32)) (fun h1 => ?_) (fun h1 => ?_)
  · have q1 := hp.2.1 h1
    refine am_cx (pre := pr10_ch) (f := fm10_ch) (r := (some (.inl (fn10_ch s (p0 + (1 : Int32)))), hm_w s, 0, 0)) ?_ ?_ ?_
    · exact ⟨s, [(p0 + (1 : Int32))], rfl, rfl, q1⟩
    · rfl
    refine am_if (c := (fn10_ch s (p0 + (1 : Int32))) = p1) (fun h2 => ?_) (fun h2 => ?_)
    · have e : fn10_begins s p0 p1 = (1 : Int32) := by
        unfold fn10_begins
        rw [if_pos h1, if_pos h2]
      rw [e] <;> rfl
    · have e : fn10_begins s p0 p1 = (0 : Int32) := by
        unfold fn10_begins
        rw [if_pos h1, if_neg h2]
      rw [e] <;> rfl
  · have e : fn10_begins s p0 p1 = (0 : Int32) := by
      unfold fn10_begins
      rw [if_neg h1]
    rw [e] <;> rfl
abbrev pr10_begins : List am_V → List am_C → Prop := hm_pr (fun s is => match is with
  | [p0, p1] => wp10_begins s p0 p1
  | _ => False)
def fm10_begins : am_M := hm_fn (fun s is => match is with
  | [p0, p1] => (fn10_begins s p0 p1, s)
  | _ => (0, s))
set_option maxRecDepth 100000 in
set_option maxHeartbeats 4000000 in
theorem rn10_begins : ∀ (a : List am_V) (w : List am_C), pr10_begins a w → ∃ n, am_ev (am_mk kb10_begins (fm10_begins a w).2.2.1 (fm10_begins a w).2.2.2 w.length) [] n (0, am_L0 a 3, [], w, 0, 0) = some ((fm10_begins a w).1, (fm10_begins a w).2.1) := by
  rintro a w ⟨s, is, rfl, rfl, hp⟩
  rcases is with _ | ⟨p0, _ | ⟨p1, _ | ⟨z, is⟩⟩⟩
  · exact hp.elim
  · exact hp.elim
  · exact ⟨1, re10_begins s p0 p1 hp⟩
  · exact hp.elim
theorem rl10_begins : ∀ (a : List am_V) (w : List am_C), pr10_begins a w → a.length ≤ 3 := by
  rintro a w ⟨s, is, rfl, rfl, hp⟩
  rcases is with _ | ⟨p0, _ | ⟨p1, _ | ⟨z, is⟩⟩⟩
  · exact hp.elim
  · exact hp.elim
  · exact Nat.le_of_ble_eq_true rfl
  · exact hp.elim
set_option maxRecDepth 100000 in
set_option maxHeartbeats 4000000 in
theorem km10_begins {l : Launch} {E : (Nat → Prop) → State → Prop} {D : va_G} {ou : Nat → Nat} {ca : Nat → ClassId} (hE : am_EC E) : hg_Met l E D ou ca hy10_begins prog_12_method_24_code 3 (some .boolean) 1 pr10_begins fm10_begins := by
  refine am_met (B := kb10_begins) (cuts := []) (nt := 5) (by decide +kernel) rfl rfl (hg_tys_ok ca) ?_ (by decide) rl10_begins ?_ rn10_begins
  · exact fun t ht => List.mem_cons_of_mem _ (hg_arr t ht)
  · intro a w hp ad p e R s m args below meth c hR X hEs hnm
    have hR1 : 1 ≤ R.frames ∧ 40 ≤ R.locals := by rw [hR]; exact ⟨Nat.le_refl _, Nat.le_refl _⟩
    refine ⟨kd10_begins_ok, fun index ci fi mode hq => kf10_ok X.2.2.2.2.1 (index, ci, fi, mode) (am_as_mem hq), fun index ci fs hq => (am_no hq).elim, fun x v hq => (am_no hq).elim, ?_, fun o n f hq => (am_no hq).elim, rfl, rfl, by rw [hR]; exact Nat.le_refl _, by rw [hR]; exact Nat.le_refl _⟩
    intro pc sel n0 pre0 f0 hq
    have hz : ∀ q ∈ ki10_begins, am_CK p l e R s m args below meth c D hn_cl (va_A (am_w ad ou ca w) s.heap.size) ou ca 3 q.1 q.2.2.1 q.2.2.2.1 q.2.2.2.2 := by
      refine am_allc (am_ck_V (n := 1) X hEs hE (km10_ch hE) (hg_good (gw_mem 1147 (by decide +kernel))) rfl (List.mem_cons_of_mem _ (gw_mem 76 (by decide +kernel))) (List.mem_cons_of_mem _ (gw_mem 1144 (by decide +kernel))) (List.mem_cons_of_mem _ (gw_mem 1146 (by decide +kernel))) (List.mem_cons_of_mem _ (gw_mem 21 (by decide +kernel))) hm_pa (by decide +kernel) ⟨Nat.le_trans (by decide) hR1.1, Nat.le_trans (by decide) hR1.2⟩ (kd10_begins_ok (2, .invokevirtual 114, 3) (List.mem_of_getElem? (i := 2) rfl))) (am_allc (am_ck_V (n := 1) X hEs hE (km10_ch hE) (hg_good (gw_mem 1147 (by decide +kernel))) rfl (List.mem_cons_of_mem _ (gw_mem 76 (by decide +kernel))) (List.mem_cons_of_mem _ (gw_mem 1144 (by decide +kernel))) (List.mem_cons_of_mem _ (gw_mem 1146 (by decide +kernel))) (List.mem_cons_of_mem _ (gw_mem 21 (by decide +kernel))) hm_pa (by decide +kernel) ⟨Nat.le_trans (by decide) hR1.1, Nat.le_trans (by decide) hR1.2⟩ (kd10_begins_ok (14, .invokevirtual 114, 3) (List.mem_of_getElem? (i := 9) rfl))) (am_all0))
    exact hz _ (am_as_mem hq)
