noncomputable def ki10_thrown : List (Nat × Option (List Nat) × Nat × (List am_V → List am_C → Prop) × am_M) := []
noncomputable def kb10_thrown : am_B := (kd10_thrown, am_as kf10, hn_ty, fun _ => none, fun _ => none, am_as ki10_thrown, fun _ => none, 5, 1, (some .int))
def fn10_thrown (s : hs) : Int32 := (hm_thrown s)
def wp10_thrown (s : hs) : Prop := True
set_option maxRecDepth 100000 in
set_option maxHeartbeats 4000000 in
theorem re10_thrown (s : hs) (hp : wp10_thrown s) : am_lf (am_mk kb10_thrown 0 0 22) [] (0, am_L0 [.inr (.inl 0)] 1, [], hm_w s, 0, 0) = some (some (.inl (fn10_thrown s)), hm_w s) := by
  unfold wp10_thrown at hp
  refine am_lf_eq ?_
  generalize am_lf (am_mk kb10_thrown 0 0 22) [] = kt
  rfl
abbrev pr10_thrown : List am_V → List am_C → Prop := hm_pr (fun s is => match is with
  | [] => wp10_thrown s
  | _ => False)
def fm10_thrown : am_M := hm_fn (fun s is => match is with
  | [] => (fn10_thrown s, s)
  | _ => (0, s))
set_option maxRecDepth 100000 in
set_option maxHeartbeats 4000000 in
theorem rn10_thrown : ∀ (a : List am_V) (w : List am_C), pr10_thrown a w → ∃ n, am_ev (am_mk kb10_thrown (fm10_thrown a w).2.2.1 (fm10_thrown a w).2.2.2 w.length) [] n (0, am_L0 a 1, [], w, 0, 0) = some ((fm10_thrown a w).1, (fm10_thrown a w).2.1) := by
  rintro a w ⟨s, is, rfl, rfl, hp⟩
  rcases is with _ | ⟨z, is⟩
  · exact am_lf_ev (re10_thrown s hp)
  · exact hp.elim
theorem rl10_thrown : ∀ (a : List am_V) (w : List am_C), pr10_thrown a w → a.length ≤ 1 := by
  rintro a w ⟨s, is, rfl, rfl, hp⟩
  rcases is with _ | ⟨z, is⟩
  · exact Nat.le_of_ble_eq_true rfl
  · exact hp.elim
set_option maxRecDepth 100000 in
set_option maxHeartbeats 4000000 in
theorem km10_thrown {l : Launch} {E : (Nat → Prop) → State → Prop} {D : va_G} {ou : Nat → Nat} {ca : Nat → ClassId} (hE : am_EC E) : hg_Met l E D ou ca hy10_thrown prog_12_method_2_code 1 (some .int) 0 pr10_thrown fm10_thrown := by
  refine am_met (B := kb10_thrown) (cuts := []) (nt := 5) (by decide +kernel) rfl rfl (hg_tys_ok ca) ?_ (by decide) rl10_thrown ?_ rn10_thrown
  · exact fun t ht => List.mem_cons_of_mem _ (hg_arr t ht)
  · intro a w hp ad p e R s m args below meth c hR X hEs hnm
    have hR1 : 0 ≤ R.frames ∧ 0 ≤ R.locals := by rw [hR]; exact ⟨Nat.le_refl _, Nat.le_refl _⟩
    refine ⟨kd10_thrown_ok, fun index ci fi mode hq => kf10_ok X.2.2.2.2.1 (index, ci, fi, mode) (am_as_mem hq), fun index ci fs hq => (am_no hq).elim, fun x v hq => (am_no hq).elim, ?_, fun o n f hq => (am_no hq).elim, rfl, rfl, by rw [hR]; exact Nat.le_refl _, by rw [hR]; exact Nat.le_refl _⟩
    intro pc sel n0 pre0 f0 hq
    exact (am_no hq).elim
noncomputable def ki10_type : List (Nat × Option (List Nat) × Nat × (List am_V → List am_C → Prop) × am_M) := []
noncomputable def kb10_type : am_B := (kd10_type, am_as kf10, hn_ty, fun _ => none, fun _ => none, am_as ki10_type, fun _ => none, 5, 2, (some .boolean))
def fn10_type (s : hs) (p0 : Int32) : Int32 × hs := (if p0 = (10 : Int32) then (if (hm_typed (hu_thrown s (0 : Int32))) = (40 : Int32) then ((0 : Int32), (hu_thrown s (0 : Int32))) else ((1 : Int32), (hu_typed (hu_row (hu_thrown s (0 : Int32)) (upd (hm_row (hu_thrown s (0 : Int32))) ((hm_typed (hu_thrown s (0 : Int32)))).toNatClampNeg (vp_nar .char p0))) ((hm_typed (hu_row (hu_thrown s (0 : Int32)) (upd (hm_row (hu_thrown s (0 : Int32))) ((hm_typed (hu_thrown s (0 : Int32)))).toNatClampNeg (vp_nar .char p0)))) + (1 : Int32))))) else (if p0 < (32 : Int32) then ((0 : Int32), (hu_thrown s (0 : Int32))) else (if (126 : Int32) < p0 then ((0 : Int32), (hu_thrown s (0 : Int32))) else (if (hm_typed (hu_thrown s (0 : Int32))) = (40 : Int32) then ((0 : Int32), (hu_thrown s (0 : Int32))) else ((1 : Int32), (hu_typed (hu_row (hu_thrown s (0 : Int32)) (upd (hm_row (hu_thrown s (0 : Int32))) ((hm_typed (hu_thrown s (0 : Int32)))).toNatClampNeg (vp_nar .char p0))) ((hm_typed (hu_row (hu_thrown s (0 : Int32)) (upd (hm_row (hu_thrown s (0 : Int32))) ((hm_typed (hu_thrown s (0 : Int32)))).toNatClampNeg (vp_nar .char p0)))) + (1 : Int32))))))))
def wp10_type (s : hs) (p0 : Int32) : Prop := ((p0 = (10 : Int32) → (((hm_typed (hu_thrown s (0 : Int32))) = (40 : Int32) → True) ∧ (¬ (hm_typed (hu_thrown s (0 : Int32))) = (40 : Int32) → (am_inb (hm_typed (hu_thrown s (0 : Int32))) 40 = true)))) ∧ (¬ p0 = (10 : Int32) → ((p0 < (32 : Int32) → True) ∧ (¬ p0 < (32 : Int32) → (((126 : Int32) < p0 → True) ∧ (¬ (126 : Int32) < p0 → (((hm_typed (hu_thrown s (0 : Int32))) = (40 : Int32) → True) ∧ (¬ (hm_typed (hu_thrown s (0 : Int32))) = (40 : Int32) → (am_inb (hm_typed (hu_thrown s (0 : Int32))) 40 = true)))))))))
set_option maxRecDepth 100000 in
set_option maxHeartbeats 4000000 in
theorem re10_type (s : hs) (p0 : Int32) (hp : wp10_type s p0) : am_lf (am_mk kb10_type 0 0 22) [] (0, am_L0 [.inr (.inl 0), .inl p0] 2, [], hm_w s, 0, 0) = some (some (.inl (fn10_type s p0).1), hm_w (fn10_type s p0).2) := by
  unfold wp10_type at hp
  refine am_lf_eq ?_
  generalize am_lf (am_mk kb10_type 0 0 22) [] = kt
  refine am_if (c := p0 = (10 : Int32)) (fun h1 => ?_) (fun h1 => ?_)
  · have q1 := hp.1 h1
    refine am_if (c := (hm_typed (hu_thrown s (0 : Int32))) = (40 : Int32)) (fun h2 => ?_) (fun h2 => ?_)
    · have e : fn10_type s p0 = ((0 : Int32), (hu_thrown s (0 : Int32))) := by
        rw [fn10_type]
        rw [if_pos h1, if_pos h2]
      rw [e] <;> rfl
    · have q2 := q1.2 h2
      refine am_ci (c := am_inb (hm_typed (hu_thrown s (0 : Int32))) 40 = true) q2 ?_
      have e : fn10_type s p0 = ((1 : Int32), (hu_typed (hu_row (hu_thrown s (0 : Int32)) (upd (hm_row (hu_thrown s (0 : Int32))) ((hm_typed (hu_thrown s (0 : Int32)))).toNatClampNeg (vp_nar .char p0))) ((hm_typed (hu_row (hu_thrown s (0 : Int32)) (upd (hm_row (hu_thrown s (0 : Int32))) ((hm_typed (hu_thrown s (0 : Int32)))).toNatClampNeg (vp_nar .char p0)))) + (1 : Int32)))) := by
        rw [fn10_type]
        rw [if_pos h1, if_neg h2]
      rw [e] <;> rfl
  · have q1 := hp.2 h1
    refine am_if (c := p0 < (32 : Int32)) (fun h2 => ?_) (fun h2 => ?_)
    · have e : fn10_type s p0 = ((0 : Int32), (hu_thrown s (0 : Int32))) := by
        rw [fn10_type]
        rw [if_neg h1, if_pos h2]
      rw [e] <;> rfl
    · have q2 := q1.2 h2
      refine am_if (c := (126 : Int32) < p0) (fun h3 => ?_) (fun h3 => ?_)
      · have e : fn10_type s p0 = ((0 : Int32), (hu_thrown s (0 : Int32))) := by
          rw [fn10_type]
          rw [if_neg h1, if_neg h2, if_pos h3]
        rw [e] <;> rfl
      · have q3 := q2.2 h3
        refine am_if (c := (hm_typed (hu_thrown s (0 : Int32))) = (40 : Int32)) (fun h4 => ?_) (fun h4 => ?_)
        · have e : fn10_type s p0 = ((0 : Int32), (hu_thrown s (0 : Int32))) := by
            rw [fn10_type]
            rw [if_neg h1, if_neg h2, if_neg h3, if_pos h4]
          rw [e] <;> rfl
        · have q4 := q3.2 h4
          refine am_ci (c := am_inb (hm_typed (hu_thrown s (0 : Int32))) 40 = true) q4 ?_
          have e : fn10_type s p0 = ((1 : Int32), (hu_typed (hu_row (hu_thrown s (0 : Int32)) (upd (hm_row (hu_thrown s (0 : Int32))) ((hm_typed (hu_thrown s (0 : Int32)))).toNatClampNeg (vp_nar .char p0))) ((hm_typed (hu_row (hu_thrown s (0 : Int32)) (upd (hm_row (hu_thrown s (0 : Int32))) ((hm_typed (hu_thrown s (0 : Int32)))).toNatClampNeg (vp_nar .char p0)))) + (1 : Int32)))) := by
            rw [fn10_type]
            rw [if_neg h1, if_neg h2, if_neg h3, if_neg h4]
          rw [e] <;> rfl
abbrev pr10_type : List am_V → List am_C → Prop := hm_pr (fun s is => match is with
  | [p0] => wp10_type s p0
  | _ => False)
def fm10_type : am_M := hm_fn (fun s is => match is with
  | [p0] => fn10_type s p0
  | _ => (0, s))
set_option maxRecDepth 100000 in
set_option maxHeartbeats 4000000 in
theorem rn10_type : ∀ (a : List am_V) (w : List am_C), pr10_type a w → ∃ n, am_ev (am_mk kb10_type (fm10_type a w).2.2.1 (fm10_type a w).2.2.2 w.length) [] n (0, am_L0 a 2, [], w, 0, 0) = some ((fm10_type a w).1, (fm10_type a w).2.1) := by
  rintro a w ⟨s, is, rfl, rfl, hp⟩
  rcases is with _ | ⟨p0, _ | ⟨z, is⟩⟩
  · exact hp.elim
  · exact am_lf_ev (re10_type s p0 hp)
  · exact hp.elim
theorem rl10_type : ∀ (a : List am_V) (w : List am_C), pr10_type a w → a.length ≤ 2 := by
  rintro a w ⟨s, is, rfl, rfl, hp⟩
  rcases is with _ | ⟨p0, _ | ⟨z, is⟩⟩
  · exact hp.elim
  · exact Nat.le_of_ble_eq_true rfl
  · exact hp.elim
set_option maxRecDepth 100000 in
set_option maxHeartbeats 4000000 in
theorem km10_type {l : Launch} {E : (Nat → Prop) → State → Prop} {D : va_G} {ou : Nat → Nat} {ca : Nat → ClassId} (hE : am_EC E) : hg_Met l E D ou ca hy10_type prog_12_method_3_code 2 (some .boolean) 0 pr10_type fm10_type := by
  refine am_met (B := kb10_type) (cuts := []) (nt := 5) (by decide +kernel) rfl rfl (hg_tys_ok ca) ?_ (by decide) rl10_type ?_ rn10_type
  · exact fun t ht => List.mem_cons_of_mem _ (hg_arr t ht)
  · intro a w hp ad p e R s m args below meth c hR X hEs hnm
    have hR1 : 0 ≤ R.frames ∧ 0 ≤ R.locals := by rw [hR]; exact ⟨Nat.le_refl _, Nat.le_refl _⟩
    refine ⟨kd10_type_ok, fun index ci fi mode hq => kf10_ok X.2.2.2.2.1 (index, ci, fi, mode) (am_as_mem hq), fun index ci fs hq => (am_no hq).elim, fun x v hq => (am_no hq).elim, ?_, fun o n f hq => (am_no hq).elim, rfl, rfl, by rw [hR]; exact Nat.le_refl _, by rw [hR]; exact Nat.le_refl _⟩
    intro pc sel n0 pre0 f0 hq
    exact (am_no hq).elim
noncomputable def ki10_wipe : List (Nat × Option (List Nat) × Nat × (List am_V → List am_C → Prop) × am_M) := []
noncomputable def kb10_wipe : am_B := (kd10_wipe, am_as kf10, hn_ty, fun _ => none, fun _ => none, am_as ki10_wipe, fun _ => none, 5, 2, (some .int))
def fn10_wipe (s : hs) : Int32 × hs := ((hm_typed (hu_thrown s (0 : Int32))), (hu_typed (hu_thrown s (0 : Int32)) (0 : Int32)))
def wp10_wipe (s : hs) : Prop := True
set_option maxRecDepth 100000 in
set_option maxHeartbeats 4000000 in
theorem re10_wipe (s : hs) (hp : wp10_wipe s) : am_lf (am_mk kb10_wipe 0 0 22) [] (0, am_L0 [.inr (.inl 0)] 2, [], hm_w s, 0, 0) = some (some (.inl (fn10_wipe s).1), hm_w (fn10_wipe s).2) := by
  unfold wp10_wipe at hp
  refine am_lf_eq ?_
  generalize am_lf (am_mk kb10_wipe 0 0 22) [] = kt
  rfl
abbrev pr10_wipe : List am_V → List am_C → Prop := hm_pr (fun s is => match is with
  | [] => wp10_wipe s
  | _ => False)
def fm10_wipe : am_M := hm_fn (fun s is => match is with
  | [] => fn10_wipe s
  | _ => (0, s))
set_option maxRecDepth 100000 in
set_option maxHeartbeats 4000000 in
theorem rn10_wipe : ∀ (a : List am_V) (w : List am_C), pr10_wipe a w → ∃ n, am_ev (am_mk kb10_wipe (fm10_wipe a w).2.2.1 (fm10_wipe a w).2.2.2 w.length) [] n (0, am_L0 a 2, [], w, 0, 0) = some ((fm10_wipe a w).1, (fm10_wipe a w).2.1) := by
  rintro a w ⟨s, is, rfl, rfl, hp⟩
  rcases is with _ | ⟨z, is⟩
  · exact am_lf_ev (re10_wipe s hp)
  · exact hp.elim
theorem rl10_wipe : ∀ (a : List am_V) (w : List am_C), pr10_wipe a w → a.length ≤ 2 := by
  rintro a w ⟨s, is, rfl, rfl, hp⟩
  rcases is with _ | ⟨z, is⟩
  · exact Nat.le_of_ble_eq_true rfl
  · exact hp.elim
set_option maxRecDepth 100000 in
set_option maxHeartbeats 4000000 in
theorem km10_wipe {l : Launch} {E : (Nat → Prop) → State → Prop} {D : va_G} {ou : Nat → Nat} {ca : Nat → ClassId} (hE : am_EC E) : hg_Met l E D ou ca hy10_wipe prog_12_method_4_code 2 (some .int) 0 pr10_wipe fm10_wipe := by
  refine am_met (B := kb10_wipe) (cuts := []) (nt := 5) (by decide +kernel) rfl rfl (hg_tys_ok ca) ?_ (by decide) rl10_wipe ?_ rn10_wipe
  · exact fun t ht => List.mem_cons_of_mem _ (hg_arr t ht)
  · intro a w hp ad p e R s m args below meth c hR X hEs hnm
    have hR1 : 0 ≤ R.frames ∧ 0 ≤ R.locals := by rw [hR]; exact ⟨Nat.le_refl _, Nat.le_refl _⟩
    refine ⟨kd10_wipe_ok, fun index ci fi mode hq => kf10_ok X.2.2.2.2.1 (index, ci, fi, mode) (am_as_mem hq), fun index ci fs hq => (am_no hq).elim, fun x v hq => (am_no hq).elim, ?_, fun o n f hq => (am_no hq).elim, rfl, rfl, by rw [hR]; exact Nat.le_refl _, by rw [hR]; exact Nat.le_refl _⟩
    intro pc sel n0 pre0 f0 hq
    exact (am_no hq).elim
noncomputable def ki10_add : List (Nat × Option (List Nat) × Nat × (List am_V → List am_C → Prop) × am_M) := []
noncomputable def kb10_add : am_B := (kd10_add, am_as kf10, hn_ty, fun _ => none, fun _ => none, am_as ki10_add, fun _ => none, 5, 2, (some .int))
def fn10_add_c35 : Nat → hs → Int32 → Int32 × hs
  | 0, s, _ => (0, s)
  | n + 1, s, v1 => (if (hm_typed s) ≤ v1 then (((hm_length s) + (hm_typed s)), (hu_compiled (hu_typed (hu_length s ((hm_length s) + (hm_typed s))) (0 : Int32)) (0 : Int32))) else (fn10_add_c35 n (hu_template s (upd (hm_template s) (((hm_length s) + v1)).toNatClampNeg (vp_nar .char ((hm_row s) (v1).toNatClampNeg)))) (v1 + (1 : Int32))))
def wp10_add_c35 : Nat → hs → Int32 → Prop
  | 0, _, _ => False
  | n + 1, s, v1 => (((hm_typed s) ≤ v1 → True) ∧ (¬ (hm_typed s) ≤ v1 → (am_inb v1 40 = true ∧ (am_inb ((hm_length s) + v1) 240 = true ∧ (wp10_add_c35 n (hu_template s (upd (hm_template s) (((hm_length s) + v1)).toNatClampNeg (vp_nar .char ((hm_row s) (v1).toNatClampNeg)))) (v1 + (1 : Int32)))))))
set_option maxRecDepth 100000 in
set_option maxHeartbeats 4000000 in
theorem rc10_add_35 : ∀ (n : Nat) (s : hs) (v1 : Int32) , wp10_add_c35 n s v1 → am_lf (am_mk kb10_add 0 0 22) [35] (35, [some (.inr (.inl 0)), some (.inl v1)], [], hm_w s, 0, 0) = some (some (.inl (fn10_add_c35 n s v1).1), hm_w (fn10_add_c35 n s v1).2) := by
  intro n
  induction n with
  | zero =>
    intro s v1 hp
    exact hp.elim
  | succ n ih =>
    intro s v1 hp
    unfold wp10_add_c35 at hp
    refine am_lf_eq ?_
    generalize am_lf (am_mk kb10_add 0 0 22) [35] = kt at ih ⊢
    refine am_if (c := (hm_typed s) ≤ v1) (fun h2 => ?_) (fun h2 => ?_)
    · have e : fn10_add_c35 (n + 1) s v1 = (((hm_length s) + (hm_typed s)), (hu_compiled (hu_typed (hu_length s ((hm_length s) + (hm_typed s))) (0 : Int32)) (0 : Int32))) := by
        rw [fn10_add_c35]
        rw [if_pos h2]
      rw [e] <;> rfl
    · have q2 := hp.2 h2
      refine am_ci (c := am_inb v1 40 = true) q2.1 ?_
      refine am_ci (c := am_inb ((hm_length s) + v1) 240 = true) q2.2.1 ?_
      have e : fn10_add_c35 (n + 1) s v1 = fn10_add_c35 n (hu_template s (upd (hm_template s) (((hm_length s) + v1)).toNatClampNeg (vp_nar .char ((hm_row s) (v1).toNatClampNeg)))) (v1 + (1 : Int32)) := by
        rw [fn10_add_c35]
        rw [if_neg h2]
      rw [e]
      exact ih (hu_template s (upd (hm_template s) (((hm_length s) + v1)).toNatClampNeg (vp_nar .char ((hm_row s) (v1).toNatClampNeg)))) (v1 + (1 : Int32))  q2.2.2
def fn10_add (s : hs) : Int32 × hs := (if ((hm_length s) + (hm_typed s)) ≤ (240 : Int32) then (fn10_add_c35 1000 (hu_thrown s (0 : Int32)) (0 : Int32)) else ((0 : Int32), (hu_thrown s (1 : Int32))))
def wp10_add (s : hs) : Prop := ((((hm_length s) + (hm_typed s)) ≤ (240 : Int32) → (wp10_add_c35 1000 (hu_thrown s (0 : Int32)) (0 : Int32))) ∧ (¬ ((hm_length s) + (hm_typed s)) ≤ (240 : Int32) → True))
set_option maxRecDepth 100000 in
set_option maxHeartbeats 4000000 in
theorem re10_add (s : hs) (hp : wp10_add s) : am_lf (am_mk kb10_add 0 0 22) [35] (0, am_L0 [.inr (.inl 0)] 2, [], hm_w s, 0, 0) = some (some (.inl (fn10_add s).1), hm_w (fn10_add s).2) := by
  unfold wp10_add at hp
  have i35 := @rc10_add_35
  refine am_lf_eq ?_
  generalize am_lf (am_mk kb10_add 0 0 22) [35] = kt at i35 ⊢
  refine am_if (c := ((hm_length s) + (hm_typed s)) ≤ (240 : Int32)) (fun h1 => ?_) (fun h1 => ?_)
  · have q1 := hp.1 h1
    have e : fn10_add s = fn10_add_c35 1000 (hu_thrown s (0 : Int32)) (0 : Int32) := by
      rw [fn10_add]
      rw [if_pos h1]
    rw [e]
    exact i35 1000 (hu_thrown s (0 : Int32)) (0 : Int32)  q1
  · have e : fn10_add s = ((0 : Int32), (hu_thrown s (1 : Int32))) := by
      rw [fn10_add]
      rw [if_neg h1]
    rw [e] <;> rfl
abbrev pr10_add : List am_V → List am_C → Prop := hm_pr (fun s is => match is with
  | [] => wp10_add s
  | _ => False)
def fm10_add : am_M := hm_fn (fun s is => match is with
  | [] => fn10_add s
  | _ => (0, s))
set_option maxRecDepth 100000 in
set_option maxHeartbeats 4000000 in
theorem rn10_add : ∀ (a : List am_V) (w : List am_C), pr10_add a w → ∃ n, am_ev (am_mk kb10_add (fm10_add a w).2.2.1 (fm10_add a w).2.2.2 w.length) [35] n (0, am_L0 a 2, [], w, 0, 0) = some ((fm10_add a w).1, (fm10_add a w).2.1) := by
  rintro a w ⟨s, is, rfl, rfl, hp⟩
  rcases is with _ | ⟨z, is⟩
  · exact am_lf_ev (re10_add s hp)
  · exact hp.elim
theorem rl10_add : ∀ (a : List am_V) (w : List am_C), pr10_add a w → a.length ≤ 2 := by
  rintro a w ⟨s, is, rfl, rfl, hp⟩
  rcases is with _ | ⟨z, is⟩
  · exact Nat.le_of_ble_eq_true rfl
  · exact hp.elim
set_option maxRecDepth 100000 in
set_option maxHeartbeats 4000000 in
theorem km10_add {l : Launch} {E : (Nat → Prop) → State → Prop} {D : va_G} {ou : Nat → Nat} {ca : Nat → ClassId} (hE : am_EC E) : hg_Met l E D ou ca hy10_add prog_12_method_5_code 2 (some .int) 0 pr10_add fm10_add := by
  refine am_met (B := kb10_add) (cuts := [35]) (nt := 5) (by decide +kernel) rfl rfl (hg_tys_ok ca) ?_ (by decide) rl10_add ?_ rn10_add
  · exact fun t ht => List.mem_cons_of_mem _ (hg_arr t ht)
  · intro a w hp ad p e R s m args below meth c hR X hEs hnm
    have hR1 : 0 ≤ R.frames ∧ 0 ≤ R.locals := by rw [hR]; exact ⟨Nat.le_refl _, Nat.le_refl _⟩
    refine ⟨kd10_add_ok, fun index ci fi mode hq => kf10_ok X.2.2.2.2.1 (index, ci, fi, mode) (am_as_mem hq), fun index ci fs hq => (am_no hq).elim, fun x v hq => (am_no hq).elim, ?_, fun o n f hq => (am_no hq).elim, rfl, rfl, by rw [hR]; exact Nat.le_refl _, by rw [hR]; exact Nat.le_refl _⟩
    intro pc sel n0 pre0 f0 hq
    exact (am_no hq).elim
noncomputable def ki10_clear : List (Nat × Option (List Nat) × Nat × (List am_V → List am_C → Prop) × am_M) := []
noncomputable def kb10_clear : am_B := (kd10_clear, am_as kf10, hn_ty, fun _ => none, fun _ => none, am_as ki10_clear, fun _ => none, 5, 2, (some .int))
def fn10_clear (s : hs) : Int32 × hs := ((hm_length (hu_thrown s (0 : Int32))), (hu_compiled (hu_length (hu_thrown s (0 : Int32)) (0 : Int32)) (0 : Int32)))
def wp10_clear (s : hs) : Prop := True
set_option maxRecDepth 100000 in
set_option maxHeartbeats 4000000 in
theorem re10_clear (s : hs) (hp : wp10_clear s) : am_lf (am_mk kb10_clear 0 0 22) [] (0, am_L0 [.inr (.inl 0)] 2, [], hm_w s, 0, 0) = some (some (.inl (fn10_clear s).1), hm_w (fn10_clear s).2) := by
  unfold wp10_clear at hp
  refine am_lf_eq ?_
  generalize am_lf (am_mk kb10_clear 0 0 22) [] = kt
  rfl
abbrev pr10_clear : List am_V → List am_C → Prop := hm_pr (fun s is => match is with
  | [] => wp10_clear s
  | _ => False)
def fm10_clear : am_M := hm_fn (fun s is => match is with
  | [] => fn10_clear s
  | _ => (0, s))
set_option maxRecDepth 100000 in
set_option maxHeartbeats 4000000 in
theorem rn10_clear : ∀ (a : List am_V) (w : List am_C), pr10_clear a w → ∃ n, am_ev (am_mk kb10_clear (fm10_clear a w).2.2.1 (fm10_clear a w).2.2.2 w.length) [] n (0, am_L0 a 2, [], w, 0, 0) = some ((fm10_clear a w).1, (fm10_clear a w).2.1) := by
  rintro a w ⟨s, is, rfl, rfl, hp⟩
  rcases is with _ | ⟨z, is⟩
  · exact am_lf_ev (re10_clear s hp)
  · exact hp.elim
theorem rl10_clear : ∀ (a : List am_V) (w : List am_C), pr10_clear a w → a.length ≤ 2 := by
  rintro a w ⟨s, is, rfl, rfl, hp⟩
  rcases is with _ | ⟨z, is⟩
  · exact Nat.le_of_ble_eq_true rfl
  · exact hp.elim
set_option maxRecDepth 100000 in
set_option maxHeartbeats 4000000 in
theorem km10_clear {l : Launch} {E : (Nat → Prop) → State → Prop} {D : va_G} {ou : Nat → Nat} {ca : Nat → ClassId} (hE : am_EC E) : hg_Met l E D ou ca hy10_clear prog_12_method_6_code 2 (some .int) 0 pr10_clear fm10_clear := by
  refine am_met (B := kb10_clear) (cuts := []) (nt := 5) (by decide +kernel) rfl rfl (hg_tys_ok ca) ?_ (by decide) rl10_clear ?_ rn10_clear
  · exact fun t ht => List.mem_cons_of_mem _ (hg_arr t ht)
  · intro a w hp ad p e R s m args below meth c hR X hEs hnm
    have hR1 : 0 ≤ R.frames ∧ 0 ≤ R.locals := by rw [hR]; exact ⟨Nat.le_refl _, Nat.le_refl _⟩
    refine ⟨kd10_clear_ok, fun index ci fi mode hq => kf10_ok X.2.2.2.2.1 (index, ci, fi, mode) (am_as_mem hq), fun index ci fs hq => (am_no hq).elim, fun x v hq => (am_no hq).elim, ?_, fun o n f hq => (am_no hq).elim, rfl, rfl, by rw [hR]; exact Nat.le_refl _, by rw [hR]; exact Nat.le_refl _⟩
    intro pc sel n0 pre0 f0 hq
    exact (am_no hq).elim
noncomputable def ki10_at : List (Nat × Option (List Nat) × Nat × (List am_V → List am_C → Prop) × am_M) := []
noncomputable def kb10_at : am_B := (kd10_at, am_as kf10, hn_ty, fun _ => none, fun _ => none, am_as ki10_at, fun _ => none, 5, 2, (some .char))
def fn10_at (s : hs) (p0 : Int32) : Int32 := (if (hm_length s) ≤ p0 then (0 : Int32) else ((hm_template s) (p0).toNatClampNeg))
def wp10_at (s : hs) (p0 : Int32) : Prop := (((hm_length s) ≤ p0 → True) ∧ (¬ (hm_length s) ≤ p0 → (am_inb p0 240 = true ∧ (am_fit .char (.inl ((hm_template s) (p0).toNatClampNeg)) = true))))
set_option maxRecDepth 100000 in
set_option maxHeartbeats 4000000 in
theorem re10_at (s : hs) (p0 : Int32) (hp : wp10_at s p0) : am_lf (am_mk kb10_at 0 0 22) [] (0, am_L0 [.inr (.inl 0), .inl p0] 2, [], hm_w s, 0, 0) = some (some (.inl (fn10_at s p0)), hm_w s) := by
  unfold wp10_at at hp
  refine am_lf_eq ?_
  generalize am_lf (am_mk kb10_at 0 0 22) [] = kt
  refine am_if (c := (hm_length s) ≤ p0) (fun h1 => ?_) (fun h1 => ?_)
  · have e : fn10_at s p0 = (0 : Int32) := by
      rw [fn10_at]
      rw [if_pos h1]
    rw [e] <;> rfl
  · have q1 := hp.2 h1
    refine am_ci (c := am_inb p0 240 = true) q1.1 ?_
    refine am_ci (c := am_fit .char (.inl ((hm_template s) (p0).toNatClampNeg)) = true) q1.2 ?_
    have e : fn10_at s p0 = ((hm_template s) (p0).toNatClampNeg) := by
      rw [fn10_at]
      rw [if_neg h1]
    rw [e] <;> rfl
abbrev pr10_at : List am_V → List am_C → Prop := hm_pr (fun s is => match is with
  | [p0] => wp10_at s p0
  | _ => False)
def fm10_at : am_M := hm_fn (fun s is => match is with
  | [p0] => (fn10_at s p0, s)
  | _ => (0, s))
set_option maxRecDepth 100000 in
set_option maxHeartbeats 4000000 in
theorem rn10_at : ∀ (a : List am_V) (w : List am_C), pr10_at a w → ∃ n, am_ev (am_mk kb10_at (fm10_at a w).2.2.1 (fm10_at a w).2.2.2 w.length) [] n (0, am_L0 a 2, [], w, 0, 0) = some ((fm10_at a w).1, (fm10_at a w).2.1) := by
  rintro a w ⟨s, is, rfl, rfl, hp⟩
  rcases is with _ | ⟨p0, _ | ⟨z, is⟩⟩
  · exact hp.elim
  · exact am_lf_ev (re10_at s p0 hp)
  · exact hp.elim
theorem rl10_at : ∀ (a : List am_V) (w : List am_C), pr10_at a w → a.length ≤ 2 := by
  rintro a w ⟨s, is, rfl, rfl, hp⟩
  rcases is with _ | ⟨p0, _ | ⟨z, is⟩⟩
  · exact hp.elim
  · exact Nat.le_of_ble_eq_true rfl
  · exact hp.elim
set_option maxRecDepth 100000 in
set_option maxHeartbeats 4000000 in
theorem km10_at {l : Launch} {E : (Nat → Prop) → State → Prop} {D : va_G} {ou : Nat → Nat} {ca : Nat → ClassId} (hE : am_EC E) : hg_Met l E D ou ca hy10_at prog_12_method_7_code 2 (some .char) 0 pr10_at fm10_at := by
  refine am_met (B := kb10_at) (cuts := []) (nt := 5) (by decide +kernel) rfl rfl (hg_tys_ok ca) ?_ (by decide) rl10_at ?_ rn10_at
  · exact fun t ht => List.mem_cons_of_mem _ (hg_arr t ht)
  · intro a w hp ad p e R s m args below meth c hR X hEs hnm
    have hR1 : 0 ≤ R.frames ∧ 0 ≤ R.locals := by rw [hR]; exact ⟨Nat.le_refl _, Nat.le_refl _⟩
    refine ⟨kd10_at_ok, fun index ci fi mode hq => kf10_ok X.2.2.2.2.1 (index, ci, fi, mode) (am_as_mem hq), fun index ci fs hq => (am_no hq).elim, fun x v hq => (am_no hq).elim, ?_, fun o n f hq => (am_no hq).elim, rfl, rfl, by rw [hR]; exact Nat.le_refl _, by rw [hR]; exact Nat.le_refl _⟩
    intro pc sel n0 pre0 f0 hq
    exact (am_no hq).elim
noncomputable def ki10_isVariable : List (Nat × Option (List Nat) × Nat × (List am_V → List am_C → Prop) × am_M) := []
noncomputable def kb10_isVariable : am_B := (kd10_isVariable, am_as kf10, hn_ty, fun _ => none, fun _ => none, am_as ki10_isVariable, fun _ => none, 5, 1, (some .boolean))
def fn10_isVariable (p0 : Int32) : Int32 := (if p0 < (97 : Int32) then (0 : Int32) else (if (104 : Int32) < p0 then (0 : Int32) else (1 : Int32)))
def wp10_isVariable (p0 : Int32) : Prop := True
set_option maxRecDepth 100000 in
set_option maxHeartbeats 4000000 in
theorem re10_isVariable (p0 : Int32) (hp : wp10_isVariable p0) : am_lf (am_mk kb10_isVariable 0 0 0) [] (0, am_L0 [.inl p0] 1, [], [], 0, 0) = some (some (.inl (fn10_isVariable p0)), []) := by
  unfold wp10_isVariable at hp
  refine am_lf_eq ?_
  generalize am_lf (am_mk kb10_isVariable 0 0 0) [] = kt
  refine am_if (c := p0 < (97 : Int32)) (fun h1 => ?_) (fun h1 => ?_)
  · have e : fn10_isVariable p0 = (0 : Int32) := by
      rw [fn10_isVariable]
      rw [if_pos h1]
    rw [e] <;> rfl
  · refine am_if (c := (104 : Int32) < p0) (fun h2 => ?_) (fun h2 => ?_)
    · have e : fn10_isVariable p0 = (0 : Int32) := by
        rw [fn10_isVariable]
        rw [if_neg h1, if_pos h2]
      rw [e] <;> rfl
    · have e : fn10_isVariable p0 = (1 : Int32) := by
        rw [fn10_isVariable]
        rw [if_neg h1, if_neg h2]
      rw [e] <;> rfl
abbrev pr10_isVariable : List am_V → List am_C → Prop := hz_pr (fun is => match is with
  | [p0] => wp10_isVariable p0
  | _ => False)
def fm10_isVariable : am_M := hz_fn (fun is => match is with
  | [p0] => fn10_isVariable p0
  | _ => 0)
set_option maxRecDepth 100000 in
set_option maxHeartbeats 4000000 in
theorem rn10_isVariable : ∀ (a : List am_V) (w : List am_C), pr10_isVariable a w → ∃ n, am_ev (am_mk kb10_isVariable (fm10_isVariable a w).2.2.1 (fm10_isVariable a w).2.2.2 w.length) [] n (0, am_L0 a 1, [], w, 0, 0) = some ((fm10_isVariable a w).1, (fm10_isVariable a w).2.1) := by
  rintro a w ⟨is, rfl, rfl, hp⟩
  rcases is with _ | ⟨p0, _ | ⟨z, is⟩⟩
  · exact hp.elim
  · exact am_lf_ev (re10_isVariable p0 hp)
  · exact hp.elim
theorem rl10_isVariable : ∀ (a : List am_V) (w : List am_C), pr10_isVariable a w → a.length ≤ 1 := by
  rintro a w ⟨is, rfl, rfl, hp⟩
  rcases is with _ | ⟨p0, _ | ⟨z, is⟩⟩
  · exact hp.elim
  · exact Nat.le_of_ble_eq_true rfl
  · exact hp.elim
set_option maxRecDepth 100000 in
set_option maxHeartbeats 4000000 in
theorem km10_isVariable {l : Launch} {E : (Nat → Prop) → State → Prop} {D : va_G} {ou : Nat → Nat} {ca : Nat → ClassId} (hE : am_EC E) : hg_Met l E D ou ca hy10_isVariable prog_12_method_8_code 1 (some .boolean) 0 pr10_isVariable fm10_isVariable := by
  refine am_met (B := kb10_isVariable) (cuts := []) (nt := 5) (by decide +kernel) rfl rfl (hg_tys_ok ca) ?_ (by decide) rl10_isVariable ?_ rn10_isVariable
  · exact fun t ht => List.mem_cons_of_mem _ (hg_arr t ht)
  · intro a w hp ad p e R s m args below meth c hR X hEs hnm
    have hR1 : 0 ≤ R.frames ∧ 0 ≤ R.locals := by rw [hR]; exact ⟨Nat.le_refl _, Nat.le_refl _⟩
    refine ⟨kd10_isVariable_ok, fun index ci fi mode hq => kf10_ok X.2.2.2.2.1 (index, ci, fi, mode) (am_as_mem hq), fun index ci fs hq => (am_no hq).elim, fun x v hq => (am_no hq).elim, ?_, fun o n f hq => (am_no hq).elim, rfl, rfl, by rw [hR]; exact Nat.le_refl _, by rw [hR]; exact Nat.le_refl _⟩
    intro pc sel n0 pre0 f0 hq
    exact (am_no hq).elim
noncomputable def ki10_push : List (Nat × Option (List Nat) × Nat × (List am_V → List am_C → Prop) × am_M) := []
noncomputable def kb10_push : am_B := (kd10_push, am_as kf10, hn_ty, fun _ => none, fun _ => none, am_as ki10_push, fun _ => none, 5, 5, (some .int))
def fn10_push (s : hs) (p0 : Int32) (p1 : Int32) (p2 : Int32) (p3 : Int32) : Int32 × hs := ((p2 + p3), (hu_symbols (hu_place (hu_sign (hu_sort s (upd (hm_sort s) ((hm_symbols s)).toNatClampNeg p0)) (upd (hm_sign (hu_sort s (upd (hm_sort s) ((hm_symbols s)).toNatClampNeg p0))) ((hm_symbols (hu_sort s (upd (hm_sort s) ((hm_symbols s)).toNatClampNeg p0)))).toNatClampNeg (vp_nar .char p1))) (upd (hm_place (hu_sign (hu_sort s (upd (hm_sort s) ((hm_symbols s)).toNatClampNeg p0)) (upd (hm_sign (hu_sort s (upd (hm_sort s) ((hm_symbols s)).toNatClampNeg p0))) ((hm_symbols (hu_sort s (upd (hm_sort s) ((hm_symbols s)).toNatClampNeg p0)))).toNatClampNeg (vp_nar .char p1)))) ((hm_symbols (hu_sign (hu_sort s (upd (hm_sort s) ((hm_symbols s)).toNatClampNeg p0)) (upd (hm_sign (hu_sort s (upd (hm_sort s) ((hm_symbols s)).toNatClampNeg p0))) ((hm_symbols (hu_sort s (upd (hm_sort s) ((hm_symbols s)).toNatClampNeg p0)))).toNatClampNeg (vp_nar .char p1))))).toNatClampNeg p2)) ((hm_symbols (hu_place (hu_sign (hu_sort s (upd (hm_sort s) ((hm_symbols s)).toNatClampNeg p0)) (upd (hm_sign (hu_sort s (upd (hm_sort s) ((hm_symbols s)).toNatClampNeg p0))) ((hm_symbols (hu_sort s (upd (hm_sort s) ((hm_symbols s)).toNatClampNeg p0)))).toNatClampNeg (vp_nar .char p1))) (upd (hm_place (hu_sign (hu_sort s (upd (hm_sort s) ((hm_symbols s)).toNatClampNeg p0)) (upd (hm_sign (hu_sort s (upd (hm_sort s) ((hm_symbols s)).toNatClampNeg p0))) ((hm_symbols (hu_sort s (upd (hm_sort s) ((hm_symbols s)).toNatClampNeg p0)))).toNatClampNeg (vp_nar .char p1)))) ((hm_symbols (hu_sign (hu_sort s (upd (hm_sort s) ((hm_symbols s)).toNatClampNeg p0)) (upd (hm_sign (hu_sort s (upd (hm_sort s) ((hm_symbols s)).toNatClampNeg p0))) ((hm_symbols (hu_sort s (upd (hm_sort s) ((hm_symbols s)).toNatClampNeg p0)))).toNatClampNeg (vp_nar .char p1))))).toNatClampNeg p2))) + (1 : Int32))))
def wp10_push (s : hs) (p0 : Int32) (p1 : Int32) (p2 : Int32) (p3 : Int32) : Prop := (am_inb (hm_symbols s) 240 = true ∧ (am_inb (hm_symbols (hu_sort s (upd (hm_sort s) ((hm_symbols s)).toNatClampNeg p0))) 240 = true ∧ (am_inb (hm_symbols (hu_sign (hu_sort s (upd (hm_sort s) ((hm_symbols s)).toNatClampNeg p0)) (upd (hm_sign (hu_sort s (upd (hm_sort s) ((hm_symbols s)).toNatClampNeg p0))) ((hm_symbols (hu_sort s (upd (hm_sort s) ((hm_symbols s)).toNatClampNeg p0)))).toNatClampNeg (vp_nar .char p1)))) 240 = true)))
set_option maxRecDepth 100000 in
set_option maxHeartbeats 4000000 in
theorem re10_push (s : hs) (p0 : Int32) (p1 : Int32) (p2 : Int32) (p3 : Int32) (hp : wp10_push s p0 p1 p2 p3) : am_lf (am_mk kb10_push 0 0 22) [] (0, am_L0 [.inr (.inl 0), .inl p0, .inl p1, .inl p2, .inl p3] 5, [], hm_w s, 0, 0) = some (some (.inl (fn10_push s p0 p1 p2 p3).1), hm_w (fn10_push s p0 p1 p2 p3).2) := by
  unfold wp10_push at hp
  refine am_lf_eq ?_
  generalize am_lf (am_mk kb10_push 0 0 22) [] = kt
  refine am_ci (c := am_inb (hm_symbols s) 240 = true) hp.1 ?_
  refine am_ci (c := am_inb (hm_symbols (hu_sort s (upd (hm_sort s) ((hm_symbols s)).toNatClampNeg p0))) 240 = true) hp.2.1 ?_
  refine am_ci (c := am_inb (hm_symbols (hu_sign (hu_sort s (upd (hm_sort s) ((hm_symbols s)).toNatClampNeg p0)) (upd (hm_sign (hu_sort s (upd (hm_sort s) ((hm_symbols s)).toNatClampNeg p0))) ((hm_symbols (hu_sort s (upd (hm_sort s) ((hm_symbols s)).toNatClampNeg p0)))).toNatClampNeg (vp_nar .char p1)))) 240 = true) hp.2.2 ?_
  rfl
abbrev pr10_push : List am_V → List am_C → Prop := hm_pr (fun s is => match is with
  | [p0, p1, p2, p3] => wp10_push s p0 p1 p2 p3
  | _ => False)
def fm10_push : am_M := hm_fn (fun s is => match is with
  | [p0, p1, p2, p3] => fn10_push s p0 p1 p2 p3
  | _ => (0, s))
set_option maxRecDepth 100000 in
set_option maxHeartbeats 4000000 in
theorem rn10_push : ∀ (a : List am_V) (w : List am_C), pr10_push a w → ∃ n, am_ev (am_mk kb10_push (fm10_push a w).2.2.1 (fm10_push a w).2.2.2 w.length) [] n (0, am_L0 a 5, [], w, 0, 0) = some ((fm10_push a w).1, (fm10_push a w).2.1) := by
  rintro a w ⟨s, is, rfl, rfl, hp⟩
  rcases is with _ | ⟨p0, _ | ⟨p1, _ | ⟨p2, _ | ⟨p3, _ | ⟨z, is⟩⟩⟩⟩⟩
  · exact hp.elim
  · exact hp.elim
  · exact hp.elim
  · exact hp.elim
  · exact am_lf_ev (re10_push s p0 p1 p2 p3 hp)
  · exact hp.elim
theorem rl10_push : ∀ (a : List am_V) (w : List am_C), pr10_push a w → a.length ≤ 5 := by
  rintro a w ⟨s, is, rfl, rfl, hp⟩
  rcases is with _ | ⟨p0, _ | ⟨p1, _ | ⟨p2, _ | ⟨p3, _ | ⟨z, is⟩⟩⟩⟩⟩
  · exact hp.elim
  · exact hp.elim
  · exact hp.elim
  · exact hp.elim
  · exact Nat.le_of_ble_eq_true rfl
  · exact hp.elim
set_option maxRecDepth 100000 in
set_option maxHeartbeats 4000000 in
theorem km10_push {l : Launch} {E : (Nat → Prop) → State → Prop} {D : va_G} {ou : Nat → Nat} {ca : Nat → ClassId} (hE : am_EC E) : hg_Met l E D ou ca hy10_push prog_12_method_9_code 5 (some .int) 0 pr10_push fm10_push := by
  refine am_met (B := kb10_push) (cuts := []) (nt := 5) (by decide +kernel) rfl rfl (hg_tys_ok ca) ?_ (by decide) rl10_push ?_ rn10_push
  · exact fun t ht => List.mem_cons_of_mem _ (hg_arr t ht)
  · intro a w hp ad p e R s m args below meth c hR X hEs hnm
    have hR1 : 0 ≤ R.frames ∧ 0 ≤ R.locals := by rw [hR]; exact ⟨Nat.le_refl _, Nat.le_refl _⟩
    refine ⟨kd10_push_ok, fun index ci fi mode hq => kf10_ok X.2.2.2.2.1 (index, ci, fi, mode) (am_as_mem hq), fun index ci fs hq => (am_no hq).elim, fun x v hq => (am_no hq).elim, ?_, fun o n f hq => (am_no hq).elim, rfl, rfl, by rw [hR]; exact Nat.le_refl _, by rw [hR]; exact Nat.le_refl _⟩
    intro pc sel n0 pre0 f0 hq
    exact (am_no hq).elim
noncomputable def ki10_ch : List (Nat × Option (List Nat) × Nat × (List am_V → List am_C → Prop) × am_M) := []
noncomputable def kb10_ch : am_B := (kd10_ch, am_as kf10, hn_ty, fun _ => none, fun _ => none, am_as ki10_ch, fun _ => none, 5, 2, (some .char))
def fn10_ch (s : hs) (p0 : Int32) : Int32 := (if (hm_symbols s) ≤ p0 then (0 : Int32) else (if ((hm_sort s) (p0).toNatClampNeg) = 0 then ((hm_sign s) (p0).toNatClampNeg) else (0 : Int32)))
def wp10_ch (s : hs) (p0 : Int32) : Prop := (((hm_symbols s) ≤ p0 → True) ∧ (¬ (hm_symbols s) ≤ p0 → (am_inb p0 240 = true ∧ ((((hm_sort s) (p0).toNatClampNeg) = 0 → (am_inb p0 240 = true ∧ (am_fit .char (.inl ((hm_sign s) (p0).toNatClampNeg)) = true))) ∧ (¬ ((hm_sort s) (p0).toNatClampNeg) = 0 → True)))))
set_option maxRecDepth 100000 in
set_option maxHeartbeats 4000000 in
theorem re10_ch (s : hs) (p0 : Int32) (hp : wp10_ch s p0) : am_lf (am_mk kb10_ch 0 0 22) [] (0, am_L0 [.inr (.inl 0), .inl p0] 2, [], hm_w s, 0, 0) = some (some (.inl (fn10_ch s p0)), hm_w s) := by
  unfold wp10_ch at hp
  refine am_lf_eq ?_
  generalize am_lf (am_mk kb10_ch 0 0 22) [] = kt
  refine am_if (c := (hm_symbols s) ≤ p0) (fun h1 => ?_) (fun h1 => ?_)
  · have e : fn10_ch s p0 = (0 : Int32) := by
      rw [fn10_ch]
      rw [if_pos h1]
    rw [e] <;> rfl
  · have q1 := hp.2 h1
    refine am_ci (c := am_inb p0 240 = true) q1.1 ?_
    refine am_if (c := ((hm_sort s) (p0).toNatClampNeg) = 0) (fun h2 => ?_) (fun h2 => ?_)
    · have q2 := q1.2.1 h2
      refine am_ci (c := am_inb p0 240 = true) q2.1 ?_
      refine am_ci (c := am_fit .char (.inl ((hm_sign s) (p0).toNatClampNeg)) = true) q2.2 ?_
      have e : fn10_ch s p0 = ((hm_sign s) (p0).toNatClampNeg) := by
        rw [fn10_ch]
        rw [if_neg h1, if_pos h2]
      rw [e] <;> rfl
    · have e : fn10_ch s p0 = (0 : Int32) := by
        rw [fn10_ch]
        rw [if_neg h1, if_neg h2]
      rw [e] <;> rfl
abbrev pr10_ch : List am_V → List am_C → Prop := hm_pr (fun s is => match is with
  | [p0] => wp10_ch s p0
  | _ => False)
def fm10_ch : am_M := hm_fn (fun s is => match is with
  | [p0] => (fn10_ch s p0, s)
  | _ => (0, s))
set_option maxRecDepth 100000 in
set_option maxHeartbeats 4000000 in
theorem rn10_ch : ∀ (a : List am_V) (w : List am_C), pr10_ch a w → ∃ n, am_ev (am_mk kb10_ch (fm10_ch a w).2.2.1 (fm10_ch a w).2.2.2 w.length) [] n (0, am_L0 a 2, [], w, 0, 0) = some ((fm10_ch a w).1, (fm10_ch a w).2.1) := by
  rintro a w ⟨s, is, rfl, rfl, hp⟩
  rcases is with _ | ⟨p0, _ | ⟨z, is⟩⟩
  · exact hp.elim
  · exact am_lf_ev (re10_ch s p0 hp)
  · exact hp.elim
theorem rl10_ch : ∀ (a : List am_V) (w : List am_C), pr10_ch a w → a.length ≤ 2 := by
  rintro a w ⟨s, is, rfl, rfl, hp⟩
  rcases is with _ | ⟨p0, _ | ⟨z, is⟩⟩
  · exact hp.elim
  · exact Nat.le_of_ble_eq_true rfl
  · exact hp.elim
set_option maxRecDepth 100000 in
set_option maxHeartbeats 4000000 in
theorem km10_ch {l : Launch} {E : (Nat → Prop) → State → Prop} {D : va_G} {ou : Nat → Nat} {ca : Nat → ClassId} (hE : am_EC E) : hg_Met l E D ou ca hy10_ch prog_12_method_12_code 2 (some .char) 0 pr10_ch fm10_ch := by
  refine am_met (B := kb10_ch) (cuts := []) (nt := 5) (by decide +kernel) rfl rfl (hg_tys_ok ca) ?_ (by decide) rl10_ch ?_ rn10_ch
  · exact fun t ht => List.mem_cons_of_mem _ (hg_arr t ht)
  · intro a w hp ad p e R s m args below meth c hR X hEs hnm
    have hR1 : 0 ≤ R.frames ∧ 0 ≤ R.locals := by rw [hR]; exact ⟨Nat.le_refl _, Nat.le_refl _⟩
    refine ⟨kd10_ch_ok, fun index ci fi mode hq => kf10_ok X.2.2.2.2.1 (index, ci, fi, mode) (am_as_mem hq), fun index ci fs hq => (am_no hq).elim, fun x v hq => (am_no hq).elim, ?_, fun o n f hq => (am_no hq).elim, rfl, rfl, by rw [hR]; exact Nat.le_refl _, by rw [hR]; exact Nat.le_refl _⟩
    intro pc sel n0 pre0 f0 hq
    exact (am_no hq).elim
noncomputable def ki10_isLetter : List (Nat × Option (List Nat) × Nat × (List am_V → List am_C → Prop) × am_M) := []
noncomputable def kb10_isLetter : am_B := (kd10_isLetter, am_as kf10, hn_ty, fun _ => none, fun _ => none, am_as ki10_isLetter, fun _ => none, 5, 1, (some .boolean))
def fn10_isLetter (p0 : Int32) : Int32 := (if p0 < (97 : Int32) then (0 : Int32) else (if (122 : Int32) < p0 then (0 : Int32) else (1 : Int32)))
def wp10_isLetter (p0 : Int32) : Prop := True
set_option maxRecDepth 100000 in
set_option maxHeartbeats 4000000 in
theorem re10_isLetter (p0 : Int32) (hp : wp10_isLetter p0) : am_lf (am_mk kb10_isLetter 0 0 0) [] (0, am_L0 [.inl p0] 1, [], [], 0, 0) = some (some (.inl (fn10_isLetter p0)), []) := by
  unfold wp10_isLetter at hp
  refine am_lf_eq ?_
  generalize am_lf (am_mk kb10_isLetter 0 0 0) [] = kt
  refine am_if (c := p0 < (97 : Int32)) (fun h1 => ?_) (fun h1 => ?_)
  · have e : fn10_isLetter p0 = (0 : Int32) := by
      rw [fn10_isLetter]
      rw [if_pos h1]
    rw [e] <;> rfl
  · refine am_if (c := (122 : Int32) < p0) (fun h2 => ?_) (fun h2 => ?_)
    · have e : fn10_isLetter p0 = (0 : Int32) := by
        rw [fn10_isLetter]
        rw [if_neg h1, if_pos h2]
      rw [e] <;> rfl
    · have e : fn10_isLetter p0 = (1 : Int32) := by
        rw [fn10_isLetter]
        rw [if_neg h1, if_neg h2]
      rw [e] <;> rfl
abbrev pr10_isLetter : List am_V → List am_C → Prop := hz_pr (fun is => match is with
  | [p0] => wp10_isLetter p0
  | _ => False)
def fm10_isLetter : am_M := hz_fn (fun is => match is with
  | [p0] => fn10_isLetter p0
  | _ => 0)
set_option maxRecDepth 100000 in
set_option maxHeartbeats 4000000 in
theorem rn10_isLetter : ∀ (a : List am_V) (w : List am_C), pr10_isLetter a w → ∃ n, am_ev (am_mk kb10_isLetter (fm10_isLetter a w).2.2.1 (fm10_isLetter a w).2.2.2 w.length) [] n (0, am_L0 a 1, [], w, 0, 0) = some ((fm10_isLetter a w).1, (fm10_isLetter a w).2.1) := by
  rintro a w ⟨is, rfl, rfl, hp⟩
  rcases is with _ | ⟨p0, _ | ⟨z, is⟩⟩
  · exact hp.elim
  · exact am_lf_ev (re10_isLetter p0 hp)
  · exact hp.elim
theorem rl10_isLetter : ∀ (a : List am_V) (w : List am_C), pr10_isLetter a w → a.length ≤ 1 := by
  rintro a w ⟨is, rfl, rfl, hp⟩
  rcases is with _ | ⟨p0, _ | ⟨z, is⟩⟩
  · exact hp.elim
  · exact Nat.le_of_ble_eq_true rfl
  · exact hp.elim
set_option maxRecDepth 100000 in
set_option maxHeartbeats 4000000 in
theorem km10_isLetter {l : Launch} {E : (Nat → Prop) → State → Prop} {D : va_G} {ou : Nat → Nat} {ca : Nat → ClassId} (hE : am_EC E) : hg_Met l E D ou ca hy10_isLetter prog_12_method_13_code 1 (some .boolean) 0 pr10_isLetter fm10_isLetter := by
  refine am_met (B := kb10_isLetter) (cuts := []) (nt := 5) (by decide +kernel) rfl rfl (hg_tys_ok ca) ?_ (by decide) rl10_isLetter ?_ rn10_isLetter
  · exact fun t ht => List.mem_cons_of_mem _ (hg_arr t ht)
  · intro a w hp ad p e R s m args below meth c hR X hEs hnm
    have hR1 : 0 ≤ R.frames ∧ 0 ≤ R.locals := by rw [hR]; exact ⟨Nat.le_refl _, Nat.le_refl _⟩
    refine ⟨kd10_isLetter_ok, fun index ci fi mode hq => kf10_ok X.2.2.2.2.1 (index, ci, fi, mode) (am_as_mem hq), fun index ci fs hq => (am_no hq).elim, fun x v hq => (am_no hq).elim, ?_, fun o n f hq => (am_no hq).elim, rfl, rfl, by rw [hR]; exact Nat.le_refl _, by rw [hR]; exact Nat.le_refl _⟩
    intro pc sel n0 pre0 f0 hq
    exact (am_no hq).elim
noncomputable def ki10_isWord : List (Nat × Option (List Nat) × Nat × (List am_V → List am_C → Prop) × am_M) := [(1, some [], 1, pr10_isLetter, fm10_isLetter)]
noncomputable def kb10_isWord : am_B := (kd10_isWord, am_as kf10, hn_ty, fun _ => none, fun _ => none, am_as ki10_isWord, fun _ => none, 5, 1, (some .boolean))
def fn10_isWord (p0 : Int32) : Int32 := (if (fn10_isLetter p0) = 0 then (if p0 < (65 : Int32) then (if p0 < (48 : Int32) then (0 : Int32) else (if (57 : Int32) < p0 then (0 : Int32) else (1 : Int32))) else (if p0 ≤ (90 : Int32) then (1 : Int32) else (if p0 < (48 : Int32) then (0 : Int32) else (if (57 : Int32) < p0 then (0 : Int32) else (1 : Int32))))) else (1 : Int32))
def wp10_isWord (p0 : Int32) : Prop := (wp10_isLetter p0)
set_option maxRecDepth 100000 in
set_option maxHeartbeats 4000000 in
theorem re10_isWord (p0 : Int32) (hp : wp10_isWord p0) : am_lf (am_mk kb10_isWord 0 0 0) [] (0, am_L0 [.inl p0] 1, [], [], 0, 0) = some (some (.inl (fn10_isWord p0)), []) := by
  unfold wp10_isWord at hp
  refine am_lf_eq ?_
  generalize am_lf (am_mk kb10_isWord 0 0 0) [] = kt
  refine am_cy (pre := pr10_isLetter) (f := fm10_isLetter) (r := (some (.inl (fn10_isLetter p0)), [], 0, 0)) ?_ ?_ ?_
  · exact ⟨[p0], rfl, rfl, hp⟩
  · rfl
  refine am_if (c := (fn10_isLetter p0) = 0) (fun h1 => ?_) (fun h1 => ?_)
  · refine am_if (c := p0 < (65 : Int32)) (fun h2 => ?_) (fun h2 => ?_)
    · refine am_if (c := p0 < (48 : Int32)) (fun h3 => ?_) (fun h3 => ?_)
      · have e : fn10_isWord p0 = (0 : Int32) := by
          rw [fn10_isWord]
          rw [if_pos h1, if_pos h2, if_pos h3]
        rw [e] <;> rfl
      · refine am_if (c := (57 : Int32) < p0) (fun h4 => ?_) (fun h4 => ?_)
        · have e : fn10_isWord p0 = (0 : Int32) := by
            rw [fn10_isWord]
            rw [if_pos h1, if_pos h2, if_neg h3, if_pos h4]
          rw [e] <;> rfl
        · have e : fn10_isWord p0 = (1 : Int32) := by
            rw [fn10_isWord]
            rw [if_pos h1, if_pos h2, if_neg h3, if_neg h4]
          rw [e] <;> rfl
    · refine am_if (c := p0 ≤ (90 : Int32)) (fun h3 => ?_) (fun h3 => ?_)
      · have e : fn10_isWord p0 = (1 : Int32) := by
          rw [fn10_isWord]
          rw [if_pos h1, if_neg h2, if_pos h3]
        rw [e] <;> rfl
      · refine am_if (c := p0 < (48 : Int32)) (fun h4 => ?_) (fun h4 => ?_)
        · have e : fn10_isWord p0 = (0 : Int32) := by
            rw [fn10_isWord]
            rw [if_pos h1, if_neg h2, if_neg h3, if_pos h4]
          rw [e] <;> rfl
        · refine am_if (c := (57 : Int32) < p0) (fun h5 => ?_) (fun h5 => ?_)
          · have e : fn10_isWord p0 = (0 : Int32) := by
              rw [fn10_isWord]
              rw [if_pos h1, if_neg h2, if_neg h3, if_neg h4, if_pos h5]
            rw [e] <;> rfl
          · have e : fn10_isWord p0 = (1 : Int32) := by
              rw [fn10_isWord]
              rw [if_pos h1, if_neg h2, if_neg h3, if_neg h4, if_neg h5]
            rw [e] <;> rfl
  · have e : fn10_isWord p0 = (1 : Int32) := by
      rw [fn10_isWord]
      rw [if_neg h1]
    rw [e] <;> rfl
abbrev pr10_isWord : List am_V → List am_C → Prop := hz_pr (fun is => match is with
  | [p0] => wp10_isWord p0
  | _ => False)
def fm10_isWord : am_M := hz_fn (fun is => match is with
  | [p0] => fn10_isWord p0
  | _ => 0)
set_option maxRecDepth 100000 in
set_option maxHeartbeats 4000000 in
theorem rn10_isWord : ∀ (a : List am_V) (w : List am_C), pr10_isWord a w → ∃ n, am_ev (am_mk kb10_isWord (fm10_isWord a w).2.2.1 (fm10_isWord a w).2.2.2 w.length) [] n (0, am_L0 a 1, [], w, 0, 0) = some ((fm10_isWord a w).1, (fm10_isWord a w).2.1) := by
  rintro a w ⟨is, rfl, rfl, hp⟩
  rcases is with _ | ⟨p0, _ | ⟨z, is⟩⟩
  · exact hp.elim
  · exact am_lf_ev (re10_isWord p0 hp)
  · exact hp.elim
theorem rl10_isWord : ∀ (a : List am_V) (w : List am_C), pr10_isWord a w → a.length ≤ 1 := by
  rintro a w ⟨is, rfl, rfl, hp⟩
  rcases is with _ | ⟨p0, _ | ⟨z, is⟩⟩
  · exact hp.elim
  · exact Nat.le_of_ble_eq_true rfl
  · exact hp.elim
set_option maxRecDepth 100000 in
set_option maxHeartbeats 4000000 in
theorem km10_isWord {l : Launch} {E : (Nat → Prop) → State → Prop} {D : va_G} {ou : Nat → Nat} {ca : Nat → ClassId} (hE : am_EC E) : hg_Met l E D ou ca hy10_isWord prog_12_method_14_code 1 (some .boolean) 1 pr10_isWord fm10_isWord := by
  refine am_met (B := kb10_isWord) (cuts := []) (nt := 5) (by decide +kernel) rfl rfl (hg_tys_ok ca) ?_ (by decide) rl10_isWord ?_ rn10_isWord
  · exact fun t ht => List.mem_cons_of_mem _ (hg_arr t ht)
  · intro a w hp ad p e R s m args below meth c hR X hEs hnm
    have hR1 : 1 ≤ R.frames ∧ 40 ≤ R.locals := by rw [hR]; exact ⟨Nat.le_refl _, Nat.le_refl _⟩
    refine ⟨kd10_isWord_ok, fun index ci fi mode hq => kf10_ok X.2.2.2.2.1 (index, ci, fi, mode) (am_as_mem hq), fun index ci fs hq => (am_no hq).elim, fun x v hq => (am_no hq).elim, ?_, fun o n f hq => (am_no hq).elim, rfl, rfl, by rw [hR]; exact Nat.le_refl _, by rw [hR]; exact Nat.le_refl _⟩
    intro pc sel n0 pre0 f0 hq
    have hz : ∀ q ∈ ki10_isWord, am_CK p l e R s m args below meth c D hn_cl (va_A (am_w ad ou ca w) s.heap.size) ou ca 1 q.1 q.2.2.1 q.2.2.2.1 q.2.2.2.2 := by
      refine am_allc (am_ck_S (n := 1) X hEs hE (km10_isLetter hE) (hg_good (gw_mem 1157 (by decide +kernel))) rfl (List.mem_cons_of_mem _ (gw_mem 76 (by decide +kernel))) (List.mem_cons_of_mem _ (gw_mem 1155 (by decide +kernel))) (List.mem_cons_of_mem _ (gw_mem 1156 (by decide +kernel))) (by decide +kernel) ⟨Nat.le_trans (by decide) hR1.1, Nat.le_trans (by decide) hR1.2⟩ (kd10_isWord_ok (1, .invokestatic 111, 3) (List.mem_of_getElem? (i := 1) rfl))) (am_all0)
    exact hz _ (am_as_mem hq)
noncomputable def ki10_isBlank : List (Nat × Option (List Nat) × Nat × (List am_V → List am_C → Prop) × am_M) := []
noncomputable def kb10_isBlank : am_B := (kd10_isBlank, am_as kf10, hn_ty, fun _ => none, fun _ => none, am_as ki10_isBlank, fun _ => none, 5, 1, (some .boolean))
def fn10_isBlank (p0 : Int32) : Int32 := (if p0 = (32 : Int32) then (1 : Int32) else (if p0 = (10 : Int32) then (1 : Int32) else (0 : Int32)))
def wp10_isBlank (p0 : Int32) : Prop := True
set_option maxRecDepth 100000 in
set_option maxHeartbeats 4000000 in
theorem re10_isBlank (p0 : Int32) (hp : wp10_isBlank p0) : am_lf (am_mk kb10_isBlank 0 0 0) [] (0, am_L0 [.inl p0] 1, [], [], 0, 0) = some (some (.inl (fn10_isBlank p0)), []) := by
  unfold wp10_isBlank at hp
  refine am_lf_eq ?_
  generalize am_lf (am_mk kb10_isBlank 0 0 0) [] = kt
  refine am_if (c := p0 = (32 : Int32)) (fun h1 => ?_) (fun h1 => ?_)
  · have e : fn10_isBlank p0 = (1 : Int32) := by
      rw [fn10_isBlank]
      rw [if_pos h1]
    rw [e] <;> rfl
  · refine am_if (c := p0 = (10 : Int32)) (fun h2 => ?_) (fun h2 => ?_)
    · have e : fn10_isBlank p0 = (1 : Int32) := by
        rw [fn10_isBlank]
        rw [if_neg h1, if_pos h2]
      rw [e] <;> rfl
    · have e : fn10_isBlank p0 = (0 : Int32) := by
        rw [fn10_isBlank]
        rw [if_neg h1, if_neg h2]
      rw [e] <;> rfl
abbrev pr10_isBlank : List am_V → List am_C → Prop := hz_pr (fun is => match is with
  | [p0] => wp10_isBlank p0
  | _ => False)
def fm10_isBlank : am_M := hz_fn (fun is => match is with
  | [p0] => fn10_isBlank p0
  | _ => 0)
set_option maxRecDepth 100000 in
set_option maxHeartbeats 4000000 in
theorem rn10_isBlank : ∀ (a : List am_V) (w : List am_C), pr10_isBlank a w → ∃ n, am_ev (am_mk kb10_isBlank (fm10_isBlank a w).2.2.1 (fm10_isBlank a w).2.2.2 w.length) [] n (0, am_L0 a 1, [], w, 0, 0) = some ((fm10_isBlank a w).1, (fm10_isBlank a w).2.1) := by
  rintro a w ⟨is, rfl, rfl, hp⟩
  rcases is with _ | ⟨p0, _ | ⟨z, is⟩⟩
  · exact hp.elim
  · exact am_lf_ev (re10_isBlank p0 hp)
  · exact hp.elim
theorem rl10_isBlank : ∀ (a : List am_V) (w : List am_C), pr10_isBlank a w → a.length ≤ 1 := by
  rintro a w ⟨is, rfl, rfl, hp⟩
  rcases is with _ | ⟨p0, _ | ⟨z, is⟩⟩
  · exact hp.elim
  · exact Nat.le_of_ble_eq_true rfl
  · exact hp.elim
set_option maxRecDepth 100000 in
set_option maxHeartbeats 4000000 in
theorem km10_isBlank {l : Launch} {E : (Nat → Prop) → State → Prop} {D : va_G} {ou : Nat → Nat} {ca : Nat → ClassId} (hE : am_EC E) : hg_Met l E D ou ca hy10_isBlank prog_12_method_15_code 1 (some .boolean) 0 pr10_isBlank fm10_isBlank := by
  refine am_met (B := kb10_isBlank) (cuts := []) (nt := 5) (by decide +kernel) rfl rfl (hg_tys_ok ca) ?_ (by decide) rl10_isBlank ?_ rn10_isBlank
  · exact fun t ht => List.mem_cons_of_mem _ (hg_arr t ht)
  · intro a w hp ad p e R s m args below meth c hR X hEs hnm
    have hR1 : 0 ≤ R.frames ∧ 0 ≤ R.locals := by rw [hR]; exact ⟨Nat.le_refl _, Nat.le_refl _⟩
    refine ⟨kd10_isBlank_ok, fun index ci fi mode hq => kf10_ok X.2.2.2.2.1 (index, ci, fi, mode) (am_as_mem hq), fun index ci fs hq => (am_no hq).elim, fun x v hq => (am_no hq).elim, ?_, fun o n f hq => (am_no hq).elim, rfl, rfl, by rw [hR]; exact Nat.le_refl _, by rw [hR]; exact Nat.le_refl _⟩
    intro pc sel n0 pre0 f0 hq
    exact (am_no hq).elim
noncomputable def ki10_lettersFrom : List (Nat × Option (List Nat) × Nat × (List am_V → List am_C → Prop) × am_M) := [(6, none, 2, pr10_ch, fm10_ch), (9, some [], 1, pr10_isLetter, fm10_isLetter)]
noncomputable def kb10_lettersFrom : am_B := (kd10_lettersFrom, am_as kf10, hn_ty, fun _ => none, fun _ => none, am_as ki10_lettersFrom, fun _ => none, 5, 3, (some .int))
def fn10_lettersFrom_c2 : Nat → hs → Int32 → Int32 → Int32
  | 0, _, _, _ => 0
  | n + 1, s, v1, v2 => (if (fn10_isLetter (fn10_ch s (v1 + v2))) = 0 then v2 else (fn10_lettersFrom_c2 n s v1 (v2 + (1 : Int32))))
def wp10_lettersFrom_c2 : Nat → hs → Int32 → Int32 → Prop
  | 0, _, _, _ => False
  | n + 1, s, v1, v2 => ((wp10_ch s (v1 + v2)) ∧ ((wp10_isLetter (fn10_ch s (v1 + v2))) ∧ (((fn10_isLetter (fn10_ch s (v1 + v2))) = 0 → True) ∧ (¬ (fn10_isLetter (fn10_ch s (v1 + v2))) = 0 → (wp10_lettersFrom_c2 n s v1 (v2 + (1 : Int32)))))))
set_option maxRecDepth 100000 in
set_option maxHeartbeats 4000000 in
theorem rc10_lettersFrom_2 : ∀ (n : Nat) (s : hs) (v1 : Int32) (v2 : Int32) , wp10_lettersFrom_c2 n s v1 v2 → am_lf (am_mk kb10_lettersFrom 0 0 22) [2] (2, [some (.inr (.inl 0)), some (.inl v1), some (.inl v2)], [], hm_w s, 0, 0) = some (some (.inl (fn10_lettersFrom_c2 n s v1 v2)), hm_w s) := by
  intro n
  induction n with
  | zero =>
    intro s v1 v2 hp
    exact hp.elim
  | succ n ih =>
    intro s v1 v2 hp
    unfold wp10_lettersFrom_c2 at hp
    refine am_lf_eq ?_
    generalize am_lf (am_mk kb10_lettersFrom 0 0 22) [2] = kt at ih ⊢
    refine am_cx (pre := pr10_ch) (f := fm10_ch) (r := (some (.inl (fn10_ch s (v1 + v2))), hm_w s, 0, 0)) ?_ ?_ ?_
    · exact ⟨s, [(v1 + v2)], rfl, rfl, hp.1⟩
    · rfl
    refine am_cy (pre := pr10_isLetter) (f := fm10_isLetter) (r := (some (.inl (fn10_isLetter (fn10_ch s (v1 + v2)))), [], 0, 0)) ?_ ?_ ?_
    · exact ⟨[(fn10_ch s (v1 + v2))], rfl, rfl, hp.2.1⟩
    · rfl
    refine am_if (c := (fn10_isLetter (fn10_ch s (v1 + v2))) = 0) (fun h2 => ?_) (fun h2 => ?_)
    · have e : fn10_lettersFrom_c2 (n + 1) s v1 v2 = v2 := by
        rw [fn10_lettersFrom_c2]
        rw [if_pos h2]
      rw [e] <;> rfl
    · have q2 := hp.2.2.2 h2
      have e : fn10_lettersFrom_c2 (n + 1) s v1 v2 = fn10_lettersFrom_c2 n s v1 (v2 + (1 : Int32)) := by
        rw [fn10_lettersFrom_c2]
        rw [if_neg h2]
      rw [e]
      exact ih s v1 (v2 + (1 : Int32))  q2
def fn10_lettersFrom (s : hs) (p0 : Int32) : Int32 := (fn10_lettersFrom_c2 1000 s p0 (0 : Int32))
def wp10_lettersFrom (s : hs) (p0 : Int32) : Prop := (wp10_lettersFrom_c2 1000 s p0 (0 : Int32))
set_option maxRecDepth 100000 in
set_option maxHeartbeats 4000000 in
theorem re10_lettersFrom (s : hs) (p0 : Int32) (hp : wp10_lettersFrom s p0) : am_lf (am_mk kb10_lettersFrom 0 0 22) [2] (0, am_L0 [.inr (.inl 0), .inl p0] 3, [], hm_w s, 0, 0) = some (some (.inl (fn10_lettersFrom s p0)), hm_w s) := by
  unfold wp10_lettersFrom at hp
  have i2 := @rc10_lettersFrom_2
  refine am_lf_eq ?_
  generalize am_lf (am_mk kb10_lettersFrom 0 0 22) [2] = kt at i2 ⊢
  exact i2 1000 s p0 (0 : Int32)  hp
abbrev pr10_lettersFrom : List am_V → List am_C → Prop := hm_pr (fun s is => match is with
  | [p0] => wp10_lettersFrom s p0
  | _ => False)
def fm10_lettersFrom : am_M := hm_fn (fun s is => match is with
  | [p0] => (fn10_lettersFrom s p0, s)
  | _ => (0, s))
set_option maxRecDepth 100000 in
set_option maxHeartbeats 4000000 in
theorem rn10_lettersFrom : ∀ (a : List am_V) (w : List am_C), pr10_lettersFrom a w → ∃ n, am_ev (am_mk kb10_lettersFrom (fm10_lettersFrom a w).2.2.1 (fm10_lettersFrom a w).2.2.2 w.length) [2] n (0, am_L0 a 3, [], w, 0, 0) = some ((fm10_lettersFrom a w).1, (fm10_lettersFrom a w).2.1) := by
  rintro a w ⟨s, is, rfl, rfl, hp⟩
  rcases is with _ | ⟨p0, _ | ⟨z, is⟩⟩
  · exact hp.elim
  · exact am_lf_ev (re10_lettersFrom s p0 hp)
  · exact hp.elim
theorem rl10_lettersFrom : ∀ (a : List am_V) (w : List am_C), pr10_lettersFrom a w → a.length ≤ 3 := by
  rintro a w ⟨s, is, rfl, rfl, hp⟩
  rcases is with _ | ⟨p0, _ | ⟨z, is⟩⟩
  · exact hp.elim
  · exact Nat.le_of_ble_eq_true rfl
  · exact hp.elim
set_option maxRecDepth 100000 in
set_option maxHeartbeats 4000000 in
theorem km10_lettersFrom {l : Launch} {E : (Nat → Prop) → State → Prop} {D : va_G} {ou : Nat → Nat} {ca : Nat → ClassId} (hE : am_EC E) : hg_Met l E D ou ca hy10_lettersFrom prog_12_method_16_code 3 (some .int) 1 pr10_lettersFrom fm10_lettersFrom := by
  refine am_met (B := kb10_lettersFrom) (cuts := [2]) (nt := 5) (by decide +kernel) rfl rfl (hg_tys_ok ca) ?_ (by decide) rl10_lettersFrom ?_ rn10_lettersFrom
  · exact fun t ht => List.mem_cons_of_mem _ (hg_arr t ht)
  · intro a w hp ad p e R s m args below meth c hR X hEs hnm
    have hR1 : 1 ≤ R.frames ∧ 40 ≤ R.locals := by rw [hR]; exact ⟨Nat.le_refl _, Nat.le_refl _⟩
    refine ⟨kd10_lettersFrom_ok, fun index ci fi mode hq => kf10_ok X.2.2.2.2.1 (index, ci, fi, mode) (am_as_mem hq), fun index ci fs hq => (am_no hq).elim, fun x v hq => (am_no hq).elim, ?_, fun o n f hq => (am_no hq).elim, rfl, rfl, by rw [hR]; exact Nat.le_refl _, by rw [hR]; exact Nat.le_refl _⟩
    intro pc sel n0 pre0 f0 hq
    have hz : ∀ q ∈ ki10_lettersFrom, am_CK p l e R s m args below meth c D hn_cl (va_A (am_w ad ou ca w) s.heap.size) ou ca 3 q.1 q.2.2.1 q.2.2.2.1 q.2.2.2.2 := by
      refine am_allc (am_ck_V (n := 1) X hEs hE (km10_ch hE) (hg_good (gw_mem 1147 (by decide +kernel))) rfl (List.mem_cons_of_mem _ (gw_mem 76 (by decide +kernel))) (List.mem_cons_of_mem _ (gw_mem 1144 (by decide +kernel))) (List.mem_cons_of_mem _ (gw_mem 1146 (by decide +kernel))) (List.mem_cons_of_mem _ (gw_mem 21 (by decide +kernel))) hm_pa (by decide +kernel) ⟨Nat.le_trans (by decide) hR1.1, Nat.le_trans (by decide) hR1.2⟩ (kd10_lettersFrom_ok (6, .invokevirtual 114, 3) (List.mem_of_getElem? (i := 6) rfl))) (am_allc (am_ck_S (n := 1) X hEs hE (km10_isLetter hE) (hg_good (gw_mem 1157 (by decide +kernel))) rfl (List.mem_cons_of_mem _ (gw_mem 76 (by decide +kernel))) (List.mem_cons_of_mem _ (gw_mem 1155 (by decide +kernel))) (List.mem_cons_of_mem _ (gw_mem 1156 (by decide +kernel))) (by decide +kernel) ⟨Nat.le_trans (by decide) hR1.1, Nat.le_trans (by decide) hR1.2⟩ (kd10_lettersFrom_ok (9, .invokestatic 111, 3) (List.mem_of_getElem? (i := 7) rfl))) (am_all0))
    exact hz _ (am_as_mem hq)
noncomputable def ki10_go : List (Nat × Option (List Nat) × Nat × (List am_V → List am_C → Prop) × am_M) := []
noncomputable def kb10_go : am_B := (kd10_go, am_as kf10, hn_ty, fun _ => none, fun _ => none, am_as ki10_go, fun _ => none, 5, 2, none)
def fn10_go (s : hs) (p0 : Int32) : hs := (hu_part (hu_kind (hu_quote (hu_element (hu_context s p0) (0 : Int32)) (0 : Int32)) (0 : Int32)) (0 : Int32))
def wp10_go (s : hs) (p0 : Int32) : Prop := True
set_option maxRecDepth 100000 in
set_option maxHeartbeats 4000000 in
theorem re10_go (s : hs) (p0 : Int32) (hp : wp10_go s p0) : am_lf (am_mk kb10_go 0 0 22) [] (0, am_L0 [.inr (.inl 0), .inl p0] 2, [], hm_w s, 0, 0) = some (none, hm_w (fn10_go s p0)) := by
  unfold wp10_go at hp
  refine am_lf_eq ?_
  generalize am_lf (am_mk kb10_go 0 0 22) [] = kt
  rfl
abbrev pr10_go : List am_V → List am_C → Prop := hm_pr (fun s is => match is with
  | [p0] => wp10_go s p0
  | _ => False)
def fm10_go : am_M := hm_fv (fun s is => match is with
  | [p0] => fn10_go s p0
  | _ => s)
set_option maxRecDepth 100000 in
set_option maxHeartbeats 4000000 in
theorem rn10_go : ∀ (a : List am_V) (w : List am_C), pr10_go a w → ∃ n, am_ev (am_mk kb10_go (fm10_go a w).2.2.1 (fm10_go a w).2.2.2 w.length) [] n (0, am_L0 a 2, [], w, 0, 0) = some ((fm10_go a w).1, (fm10_go a w).2.1) := by
  rintro a w ⟨s, is, rfl, rfl, hp⟩
  rcases is with _ | ⟨p0, _ | ⟨z, is⟩⟩
  · exact hp.elim
  · exact am_lf_ev (re10_go s p0 hp)
  · exact hp.elim
theorem rl10_go : ∀ (a : List am_V) (w : List am_C), pr10_go a w → a.length ≤ 2 := by
  rintro a w ⟨s, is, rfl, rfl, hp⟩
  rcases is with _ | ⟨p0, _ | ⟨z, is⟩⟩
  · exact hp.elim
  · exact Nat.le_of_ble_eq_true rfl
  · exact hp.elim
set_option maxRecDepth 100000 in
set_option maxHeartbeats 4000000 in
theorem km10_go {l : Launch} {E : (Nat → Prop) → State → Prop} {D : va_G} {ou : Nat → Nat} {ca : Nat → ClassId} (hE : am_EC E) : hg_Met l E D ou ca hy10_go prog_12_method_22_code 2 none 0 pr10_go fm10_go := by
  refine am_met (B := kb10_go) (cuts := []) (nt := 5) (by decide +kernel) rfl rfl (hg_tys_ok ca) ?_ (by decide) rl10_go ?_ rn10_go
  · exact fun t ht => List.mem_cons_of_mem _ (hg_arr t ht)
  · intro a w hp ad p e R s m args below meth c hR X hEs hnm
    have hR1 : 0 ≤ R.frames ∧ 0 ≤ R.locals := by rw [hR]; exact ⟨Nat.le_refl _, Nat.le_refl _⟩
    refine ⟨kd10_go_ok, fun index ci fi mode hq => kf10_ok X.2.2.2.2.1 (index, ci, fi, mode) (am_as_mem hq), fun index ci fs hq => (am_no hq).elim, fun x v hq => (am_no hq).elim, ?_, fun o n f hq => (am_no hq).elim, rfl, rfl, by rw [hR]; exact Nat.le_refl _, by rw [hR]; exact Nat.le_refl _⟩
    intro pc sel n0 pre0 f0 hq
    exact (am_no hq).elim
noncomputable def ki10_begins : List (Nat × Option (List Nat) × Nat × (List am_V → List am_C → Prop) × am_M) := [(2, none, 2, pr10_ch, fm10_ch), (14, none, 2, pr10_ch, fm10_ch)]
noncomputable def kb10_begins : am_B := (kd10_begins, am_as kf10, hn_ty, fun _ => none, fun _ => none, am_as ki10_begins, fun _ => none, 5, 3, (some .boolean))
def fn10_begins (s : hs) (p0 : Int32) (p1 : Int32) : Int32 := (if (fn10_ch s p0) = (60 : Int32) then (if (fn10_ch s (p0 + (1 : Int32))) = p1 then (1 : Int32) else (0 : Int32)) else (0 : Int32))
def wp10_begins (s : hs) (p0 : Int32) (p1 : Int32) : Prop := ((wp10_ch s p0) ∧ (((fn10_ch s p0) = (60 : Int32) → (wp10_ch s (p0 + (1 : Int32)))) ∧ (¬ (fn10_ch s p0) = (60 : Int32) → True)))
set_option maxRecDepth 100000 in
set_option maxHeartbeats 4000000 in
theorem re10_begins (s : hs) (p0 : Int32) (p1 : Int32) (hp : wp10_begins s p0 p1) : am_lf (am_mk kb10_begins 0 0 22) [] (0, am_L0 [.inr (.inl 0), .inl p0, .inl p1] 3, [], hm_w s, 0, 0) = some (some (.inl (fn10_begins s p0 p1)), hm_w s) := by
  unfold wp10_begins at hp
  refine am_lf_eq ?_
  generalize am_lf (am_mk kb10_begins 0 0 22) [] = kt
  refine am_cx (pre := pr10_ch) (f := fm10_ch) (r := (some (.inl (fn10_ch s p0)), hm_w s, 0, 0)) ?_ ?_ ?_
  · exact ⟨s, [p0], rfl, rfl, hp.1⟩
  · rfl
  refine am_if (c := (fn10_ch s p0) = (60 : Int32)) (fun h1 => ?_) (fun h1 => ?_)
  · have q1 := hp.2.1 h1
    refine am_cx (pre := pr10_ch) (f := fm10_ch) (r := (some (.inl (fn10_ch s (p0 + (1 : Int32)))), hm_w s, 0, 0)) ?_ ?_ ?_
    · exact ⟨s, [(p0 + (1 : Int32))], rfl, rfl, q1⟩
    · rfl
    refine am_if (c := (fn10_ch s (p0 + (1 : Int32))) = p1) (fun h2 => ?_) (fun h2 => ?_)
    · have e : fn10_begins s p0 p1 = (1 : Int32) := by
        rw [fn10_begins]
        rw [if_pos h1, if_pos h2]
      rw [e] <;> rfl
    · have e : fn10_begins s p0 p1 = (0 : Int32) := by
        rw [fn10_begins]
        rw [if_pos h1, if_neg h2]
      rw [e] <;> rfl
  · have e : fn10_begins s p0 p1 = (0 : Int32) := by
      rw [fn10_begins]
      rw [if_neg h1]
    rw [e] <;> rfl
abbrev pr10_begins : List am_V → List am_C → Prop := hm_pr (fun s is => match is with
  | [p0, p1] => wp10_begins s p0 p1
  | _ => False)
def fm10_begins : am_M := hm_fn (fun s is => match is with
  | [p0, p1] => (fn10_begins s p0 p1, s)
  | _ => (0, s))
set_option maxRecDepth 100000 in
set_option maxHeartbeats 4000000 in
theorem rn10_begins : ∀ (a : List am_V) (w : List am_C), pr10_begins a w → ∃ n, am_ev (am_mk kb10_begins (fm10_begins a w).2.2.1 (fm10_begins a w).2.2.2 w.length) [] n (0, am_L0 a 3, [], w, 0, 0) = some ((fm10_begins a w).1, (fm10_begins a w).2.1) := by
  rintro a w ⟨s, is, rfl, rfl, hp⟩
  rcases is with _ | ⟨p0, _ | ⟨p1, _ | ⟨z, is⟩⟩⟩
  · exact hp.elim
  · exact hp.elim
  · exact am_lf_ev (re10_begins s p0 p1 hp)
  · exact hp.elim
theorem rl10_begins : ∀ (a : List am_V) (w : List am_C), pr10_begins a w → a.length ≤ 3 := by
  rintro a w ⟨s, is, rfl, rfl, hp⟩
  rcases is with _ | ⟨p0, _ | ⟨p1, _ | ⟨z, is⟩⟩⟩
  · exact hp.elim
  · exact hp.elim
  · exact Nat.le_of_ble_eq_true rfl
  · exact hp.elim
set_option maxRecDepth 100000 in
set_option maxHeartbeats 4000000 in
theorem km10_begins {l : Launch} {E : (Nat → Prop) → State → Prop} {D : va_G} {ou : Nat → Nat} {ca : Nat → ClassId} (hE : am_EC E) : hg_Met l E D ou ca hy10_begins prog_12_method_24_code 3 (some .boolean) 1 pr10_begins fm10_begins := by
  refine am_met (B := kb10_begins) (cuts := []) (nt := 5) (by decide +kernel) rfl rfl (hg_tys_ok ca) ?_ (by decide) rl10_begins ?_ rn10_begins
  · exact fun t ht => List.mem_cons_of_mem _ (hg_arr t ht)
  · intro a w hp ad p e R s m args below meth c hR X hEs hnm
    have hR1 : 1 ≤ R.frames ∧ 40 ≤ R.locals := by rw [hR]; exact ⟨Nat.le_refl _, Nat.le_refl _⟩
    refine ⟨kd10_begins_ok, fun index ci fi mode hq => kf10_ok X.2.2.2.2.1 (index, ci, fi, mode) (am_as_mem hq), fun index ci fs hq => (am_no hq).elim, fun x v hq => (am_no hq).elim, ?_, fun o n f hq => (am_no hq).elim, rfl, rfl, by rw [hR]; exact Nat.le_refl _, by rw [hR]; exact Nat.le_refl _⟩
    intro pc sel n0 pre0 f0 hq
    have hz : ∀ q ∈ ki10_begins, am_CK p l e R s m args below meth c D hn_cl (va_A (am_w ad ou ca w) s.heap.size) ou ca 3 q.1 q.2.2.1 q.2.2.2.1 q.2.2.2.2 := by
      refine am_allc (am_ck_V (n := 1) X hEs hE (km10_ch hE) (hg_good (gw_mem 1147 (by decide +kernel))) rfl (List.mem_cons_of_mem _ (gw_mem 76 (by decide +kernel))) (List.mem_cons_of_mem _ (gw_mem 1144 (by decide +kernel))) (List.mem_cons_of_mem _ (gw_mem 1146 (by decide +kernel))) (List.mem_cons_of_mem _ (gw_mem 21 (by decide +kernel))) hm_pa (by decide +kernel) ⟨Nat.le_trans (by decide) hR1.1, Nat.le_trans (by decide) hR1.2⟩ (kd10_begins_ok (2, .invokevirtual 114, 3) (List.mem_of_getElem? (i := 2) rfl))) (am_allc (am_ck_V (n := 1) X hEs hE (km10_ch hE) (hg_good (gw_mem 1147 (by decide +kernel))) rfl (List.mem_cons_of_mem _ (gw_mem 76 (by decide +kernel))) (List.mem_cons_of_mem _ (gw_mem 1144 (by decide +kernel))) (List.mem_cons_of_mem _ (gw_mem 1146 (by decide +kernel))) (List.mem_cons_of_mem _ (gw_mem 21 (by decide +kernel))) hm_pa (by decide +kernel) ⟨Nat.le_trans (by decide) hR1.1, Nat.le_trans (by decide) hR1.2⟩ (kd10_begins_ok (14, .invokevirtual 114, 3) (List.mem_of_getElem? (i := 9) rfl))) (am_all0))
    exact hz _ (am_as_mem hq)
