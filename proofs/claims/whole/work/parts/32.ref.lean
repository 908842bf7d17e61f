noncomputable def ki10_state : List (Nat × Option (List Nat) × Nat × (List am_V → List am_C → Prop) × am_M) := []
noncomputable def kb10_state : am_B := (kd10_state, am_as kf10, hn_ty, fun _ => none, fun _ => none, am_as ki10_state, fun _ => none, 5, 1, (some .int))
def fn10_state (s : hs) : Int32 := (((((hm_context s) + ((8 : Int32) * (hm_element s))) + ((32 : Int32) * (hm_kind s))) + ((128 : Int32) * (hm_part s))) + ((1024 : Int32) * (hm_quote s)))
def wp10_state (s : hs) : Prop := True
set_option maxRecDepth 100000 in
set_option maxHeartbeats 4000000 in
theorem re10_state (s : hs) (hp : wp10_state s) : am_lf (am_mk kb10_state 0 0 22) [] (0, am_L0 [.inr (.inl 0)] 1, [], hm_w s, 0, 0) = some (some (.inl (fn10_state s)), hm_w s) := by
  unfold wp10_state at hp
  refine am_lf_eq ?_
  generalize am_lf (am_mk kb10_state 0 0 22) [] = kt
  rfl
abbrev pr10_state : List am_V → List am_C → Prop := hm_pr (fun s is => match is with
  | [] => wp10_state s
  | _ => False)
def fm10_state : am_M := hm_fn (fun s is => match is with
  | [] => (fn10_state s, s)
  | _ => (0, s))
set_option maxRecDepth 100000 in
set_option maxHeartbeats 4000000 in
theorem rn10_state : ∀ (a : List am_V) (w : List am_C), pr10_state a w → ∃ n, am_ev (am_mk kb10_state (fm10_state a w).2.2.1 (fm10_state a w).2.2.2 w.length) [] n (0, am_L0 a 1, [], w, 0, 0) = some ((fm10_state a w).1, (fm10_state a w).2.1) := by
  rintro a w ⟨s, is, rfl, rfl, hp⟩
  rcases is with _ | ⟨z, is⟩
  · exact am_lf_ev (re10_state s hp)
  · exact hp.elim
theorem rl10_state : ∀ (a : List am_V) (w : List am_C), pr10_state a w → a.length ≤ 1 := by
  rintro a w ⟨s, is, rfl, rfl, hp⟩
  rcases is with _ | ⟨z, is⟩
  · exact Nat.le_of_ble_eq_true rfl
  · exact hp.elim
set_option maxRecDepth 100000 in
set_option maxHeartbeats 4000000 in
theorem km10_state {l : Launch} {E : (Nat → Prop) → State → Prop} {D : va_G} {ou : Nat → Nat} {ca : Nat → ClassId} (hE : am_EC E) : hg_Met l E D ou ca hy10_state prog_12_method_38_code 1 (some .int) 0 pr10_state fm10_state := by
  refine am_met (B := kb10_state) (cuts := []) (nt := 5) (by decide +kernel) rfl rfl (hg_tys_ok ca) ?_ (by decide) rl10_state ?_ rn10_state
  · exact fun t ht => List.mem_cons_of_mem _ (hg_arr t ht)
  · intro a w hp ad p e R s m args below meth c hR X hEs hnm
    have hR1 : 0 ≤ R.frames ∧ 0 ≤ R.locals := by rw [hR]; exact ⟨Nat.le_refl _, Nat.le_refl _⟩
    refine ⟨kd10_state_ok, fun index ci fi mode hq => kf10_ok X.2.2.2.2.1 (index, ci, fi, mode) (am_as_mem hq), fun index ci fs hq => (am_no hq).elim, fun x v hq => (am_no hq).elim, ?_, fun o n f hq => (am_no hq).elim, rfl, rfl, by rw [hR]; exact Nat.le_refl _, by rw [hR]; exact Nat.le_refl _⟩
    intro pc sel n0 pre0 f0 hq
    exact (am_no hq).elim
noncomputable def ki10_fault : List (Nat × Option (List Nat) × Nat × (List am_V → List am_C → Prop) × am_M) := []
noncomputable def kb10_fault : am_B := (kd10_fault, am_as kf10, hn_ty, fun _ => none, fun _ => none, am_as ki10_fault, fun _ => none, 5, 1, (some .int))
def fn10_fault (s : hs) : Int32 × hs := ((hm_fault (hu_thrown s (0 : Int32))), (hu_thrown s (0 : Int32)))
def wp10_fault (s : hs) : Prop := True
set_option maxRecDepth 100000 in
set_option maxHeartbeats 4000000 in
theorem re10_fault (s : hs) (hp : wp10_fault s) : am_lf (am_mk kb10_fault 0 0 22) [] (0, am_L0 [.inr (.inl 0)] 1, [], hm_w s, 0, 0) = some (some (.inl (fn10_fault s).1), hm_w (fn10_fault s).2) := by
  unfold wp10_fault at hp
  refine am_lf_eq ?_
  generalize am_lf (am_mk kb10_fault 0 0 22) [] = kt
  rfl
abbrev pr10_fault : List am_V → List am_C → Prop := hm_pr (fun s is => match is with
  | [] => wp10_fault s
  | _ => False)
def fm10_fault : am_M := hm_fn (fun s is => match is with
  | [] => fn10_fault s
  | _ => (0, s))
set_option maxRecDepth 100000 in
set_option maxHeartbeats 4000000 in
theorem rn10_fault : ∀ (a : List am_V) (w : List am_C), pr10_fault a w → ∃ n, am_ev (am_mk kb10_fault (fm10_fault a w).2.2.1 (fm10_fault a w).2.2.2 w.length) [] n (0, am_L0 a 1, [], w, 0, 0) = some ((fm10_fault a w).1, (fm10_fault a w).2.1) := by
  rintro a w ⟨s, is, rfl, rfl, hp⟩
  rcases is with _ | ⟨z, is⟩
  · exact am_lf_ev (re10_fault s hp)
  · exact hp.elim
theorem rl10_fault : ∀ (a : List am_V) (w : List am_C), pr10_fault a w → a.length ≤ 1 := by
  rintro a w ⟨s, is, rfl, rfl, hp⟩
  rcases is with _ | ⟨z, is⟩
  · exact Nat.le_of_ble_eq_true rfl
  · exact hp.elim
set_option maxRecDepth 100000 in
set_option maxHeartbeats 4000000 in
theorem km10_fault {l : Launch} {E : (Nat → Prop) → State → Prop} {D : va_G} {ou : Nat → Nat} {ca : Nat → ClassId} (hE : am_EC E) : hg_Met l E D ou ca hy10_fault prog_12_method_49_code 1 (some .int) 0 pr10_fault fm10_fault := by
  refine am_met (B := kb10_fault) (cuts := []) (nt := 5) (by decide +kernel) rfl rfl (hg_tys_ok ca) ?_ (by decide) rl10_fault ?_ rn10_fault
  · exact fun t ht => List.mem_cons_of_mem _ (hg_arr t ht)
  · intro a w hp ad p e R s m args below meth c hR X hEs hnm
    have hR1 : 0 ≤ R.frames ∧ 0 ≤ R.locals := by rw [hR]; exact ⟨Nat.le_refl _, Nat.le_refl _⟩
    refine ⟨kd10_fault_ok, fun index ci fi mode hq => kf10_ok X.2.2.2.2.1 (index, ci, fi, mode) (am_as_mem hq), fun index ci fs hq => (am_no hq).elim, fun x v hq => (am_no hq).elim, ?_, fun o n f hq => (am_no hq).elim, rfl, rfl, by rw [hR]; exact Nat.le_refl _, by rw [hR]; exact Nat.le_refl _⟩
    intro pc sel n0 pre0 f0 hq
    exact (am_no hq).elim
noncomputable def ki10_hole : List (Nat × Option (List Nat) × Nat × (List am_V → List am_C → Prop) × am_M) := []
noncomputable def kb10_hole : am_B := (kd10_hole, am_as kf10, hn_ty, fun _ => none, fun _ => none, am_as ki10_hole, fun _ => none, 5, 2, (some .int))
def fn10_hole (s : hs) (p0 : Int32) : Int32 × hs := (if (hm_compiled (hu_thrown s (0 : Int32))) = 0 then ((-1 : Int32), (hu_thrown s (0 : Int32))) else (if p0 < 0 then ((-1 : Int32), (hu_thrown s (0 : Int32))) else (if (hm_holes (hu_thrown s (0 : Int32))) ≤ p0 then ((-1 : Int32), (hu_thrown s (0 : Int32))) else (((hm_contexts (hu_thrown s (0 : Int32))) (p0).toNatClampNeg), (hu_thrown s (0 : Int32))))))
def wp10_hole (s : hs) (p0 : Int32) : Prop := (((hm_compiled (hu_thrown s (0 : Int32))) = 0 → True) ∧ (¬ (hm_compiled (hu_thrown s (0 : Int32))) = 0 → ((p0 < 0 → True) ∧ (¬ p0 < 0 → (((hm_holes (hu_thrown s (0 : Int32))) ≤ p0 → True) ∧ (¬ (hm_holes (hu_thrown s (0 : Int32))) ≤ p0 → (am_inb p0 80 = true)))))))
set_option maxRecDepth 100000 in
set_option maxHeartbeats 4000000 in
theorem re10_hole (s : hs) (p0 : Int32) (hp : wp10_hole s p0) : am_lf (am_mk kb10_hole 0 0 22) [] (0, am_L0 [.inr (.inl 0), .inl p0] 2, [], hm_w s, 0, 0) = some (some (.inl (fn10_hole s p0).1), hm_w (fn10_hole s p0).2) := by
  unfold wp10_hole at hp
  refine am_lf_eq ?_
  generalize am_lf (am_mk kb10_hole 0 0 22) [] = kt
  refine am_if (c := (hm_compiled (hu_thrown s (0 : Int32))) = 0) (fun h1 => ?_) (fun h1 => ?_)
  · have e : fn10_hole s p0 = ((-1 : Int32), (hu_thrown s (0 : Int32))) := by
      rw [fn10_hole]
      rw [if_pos h1]
    rw [e] <;> rfl
  · have q1 := hp.2 h1
    refine am_if (c := p0 < 0) (fun h2 => ?_) (fun h2 => ?_)
    · have e : fn10_hole s p0 = ((-1 : Int32), (hu_thrown s (0 : Int32))) := by
        rw [fn10_hole]
        rw [if_neg h1, if_pos h2]
      rw [e] <;> rfl
    · have q2 := q1.2 h2
      refine am_if (c := (hm_holes (hu_thrown s (0 : Int32))) ≤ p0) (fun h3 => ?_) (fun h3 => ?_)
      · have e : fn10_hole s p0 = ((-1 : Int32), (hu_thrown s (0 : Int32))) := by
          rw [fn10_hole]
          rw [if_neg h1, if_neg h2, if_pos h3]
        rw [e] <;> rfl
      · have q3 := q2.2 h3
        refine am_ci (c := am_inb p0 80 = true) q3 ?_
        have e : fn10_hole s p0 = (((hm_contexts (hu_thrown s (0 : Int32))) (p0).toNatClampNeg), (hu_thrown s (0 : Int32))) := by
          rw [fn10_hole]
          rw [if_neg h1, if_neg h2, if_neg h3]
        rw [e] <;> rfl
abbrev pr10_hole : List am_V → List am_C → Prop := hm_pr (fun s is => match is with
  | [p0] => wp10_hole s p0
  | _ => False)
def fm10_hole : am_M := hm_fn (fun s is => match is with
  | [p0] => fn10_hole s p0
  | _ => (0, s))
set_option maxRecDepth 100000 in
set_option maxHeartbeats 4000000 in
theorem rn10_hole : ∀ (a : List am_V) (w : List am_C), pr10_hole a w → ∃ n, am_ev (am_mk kb10_hole (fm10_hole a w).2.2.1 (fm10_hole a w).2.2.2 w.length) [] n (0, am_L0 a 2, [], w, 0, 0) = some ((fm10_hole a w).1, (fm10_hole a w).2.1) := by
  rintro a w ⟨s, is, rfl, rfl, hp⟩
  rcases is with _ | ⟨p0, _ | ⟨z, is⟩⟩
  · exact hp.elim
  · exact am_lf_ev (re10_hole s p0 hp)
  · exact hp.elim
theorem rl10_hole : ∀ (a : List am_V) (w : List am_C), pr10_hole a w → a.length ≤ 2 := by
  rintro a w ⟨s, is, rfl, rfl, hp⟩
  rcases is with _ | ⟨p0, _ | ⟨z, is⟩⟩
  · exact hp.elim
  · exact Nat.le_of_ble_eq_true rfl
  · exact hp.elim
set_option maxRecDepth 100000 in
set_option maxHeartbeats 4000000 in
theorem km10_hole {l : Launch} {E : (Nat → Prop) → State → Prop} {D : va_G} {ou : Nat → Nat} {ca : Nat → ClassId} (hE : am_EC E) : hg_Met l E D ou ca hy10_hole prog_12_method_50_code 2 (some .int) 0 pr10_hole fm10_hole := by
  refine am_met (B := kb10_hole) (cuts := []) (nt := 5) (by decide +kernel) rfl rfl (hg_tys_ok ca) ?_ (by decide) rl10_hole ?_ rn10_hole
  · exact fun t ht => List.mem_cons_of_mem _ (hg_arr t ht)
  · intro a w hp ad p e R s m args below meth c hR X hEs hnm
    have hR1 : 0 ≤ R.frames ∧ 0 ≤ R.locals := by rw [hR]; exact ⟨Nat.le_refl _, Nat.le_refl _⟩
    refine ⟨kd10_hole_ok, fun index ci fi mode hq => kf10_ok X.2.2.2.2.1 (index, ci, fi, mode) (am_as_mem hq), fun index ci fs hq => (am_no hq).elim, fun x v hq => (am_no hq).elim, ?_, fun o n f hq => (am_no hq).elim, rfl, rfl, by rw [hR]; exact Nat.le_refl _, by rw [hR]; exact Nat.le_refl _⟩
    intro pc sel n0 pre0 f0 hq
    exact (am_no hq).elim
noncomputable def ki10_forget : List (Nat × Option (List Nat) × Nat × (List am_V → List am_C → Prop) × am_M) := []
noncomputable def kb10_forget : am_B := (kd10_forget, am_as kf10, hn_ty, fun _ => none, fun _ => none, am_as ki10_forget, fun _ => none, 5, 3, (some .int))
def fn10_forget (s : hs) (p0 : Int32) : Int32 × hs := (if p0 < 0 then ((0 : Int32), (hu_thrown s (1 : Int32))) else (if p0 ≤ (7 : Int32) then (((hm_counts (hu_thrown s (0 : Int32))) (p0).toNatClampNeg), (hu_counts (hu_thrown s (0 : Int32)) (upd (hm_counts (hu_thrown s (0 : Int32))) (p0).toNatClampNeg (0 : Int32)))) else ((0 : Int32), (hu_thrown s (1 : Int32)))))
def wp10_forget (s : hs) (p0 : Int32) : Prop := ((p0 < 0 → True) ∧ (¬ p0 < 0 → ((p0 ≤ (7 : Int32) → (am_inb p0 8 = true ∧ (am_inb p0 8 = true))) ∧ (¬ p0 ≤ (7 : Int32) → True))))
set_option maxRecDepth 100000 in
set_option maxHeartbeats 4000000 in
theorem re10_forget (s : hs) (p0 : Int32) (hp : wp10_forget s p0) : am_lf (am_mk kb10_forget 0 0 22) [] (0, am_L0 [.inr (.inl 0), .inl p0] 3, [], hm_w s, 0, 0) = some (some (.inl (fn10_forget s p0).1), hm_w (fn10_forget s p0).2) := by
  unfold wp10_forget at hp
  refine am_lf_eq ?_
  generalize am_lf (am_mk kb10_forget 0 0 22) [] = kt
  refine am_if (c := p0 < 0) (fun h1 => ?_) (fun h1 => ?_)
  · have e : fn10_forget s p0 = ((0 : Int32), (hu_thrown s (1 : Int32))) := by
      rw [fn10_forget]
      rw [if_pos h1]
    rw [e] <;> rfl
  · have q1 := hp.2 h1
    refine am_if (c := p0 ≤ (7 : Int32)) (fun h2 => ?_) (fun h2 => ?_)
    · have q2 := q1.1 h2
      refine am_ci (c := am_inb p0 8 = true) q2.1 ?_
      refine am_ci (c := am_inb p0 8 = true) q2.2 ?_
      have e : fn10_forget s p0 = (((hm_counts (hu_thrown s (0 : Int32))) (p0).toNatClampNeg), (hu_counts (hu_thrown s (0 : Int32)) (upd (hm_counts (hu_thrown s (0 : Int32))) (p0).toNatClampNeg (0 : Int32)))) := by
        rw [fn10_forget]
        rw [if_neg h1, if_pos h2]
      rw [e] <;> rfl
    · have e : fn10_forget s p0 = ((0 : Int32), (hu_thrown s (1 : Int32))) := by
        rw [fn10_forget]
        rw [if_neg h1, if_neg h2]
      rw [e] <;> rfl
abbrev pr10_forget : List am_V → List am_C → Prop := hm_pr (fun s is => match is with
  | [p0] => wp10_forget s p0
  | _ => False)
def fm10_forget : am_M := hm_fn (fun s is => match is with
  | [p0] => fn10_forget s p0
  | _ => (0, s))
set_option maxRecDepth 100000 in
set_option maxHeartbeats 4000000 in
theorem rn10_forget : ∀ (a : List am_V) (w : List am_C), pr10_forget a w → ∃ n, am_ev (am_mk kb10_forget (fm10_forget a w).2.2.1 (fm10_forget a w).2.2.2 w.length) [] n (0, am_L0 a 3, [], w, 0, 0) = some ((fm10_forget a w).1, (fm10_forget a w).2.1) := by
  rintro a w ⟨s, is, rfl, rfl, hp⟩
  rcases is with _ | ⟨p0, _ | ⟨z, is⟩⟩
  · exact hp.elim
  · exact am_lf_ev (re10_forget s p0 hp)
  · exact hp.elim
theorem rl10_forget : ∀ (a : List am_V) (w : List am_C), pr10_forget a w → a.length ≤ 3 := by
  rintro a w ⟨s, is, rfl, rfl, hp⟩
  rcases is with _ | ⟨p0, _ | ⟨z, is⟩⟩
  · exact hp.elim
  · exact Nat.le_of_ble_eq_true rfl
  · exact hp.elim
set_option maxRecDepth 100000 in
set_option maxHeartbeats 4000000 in
theorem km10_forget {l : Launch} {E : (Nat → Prop) → State → Prop} {D : va_G} {ou : Nat → Nat} {ca : Nat → ClassId} (hE : am_EC E) : hg_Met l E D ou ca hy10_forget prog_12_method_52_code 3 (some .int) 0 pr10_forget fm10_forget := by
  refine am_met (B := kb10_forget) (cuts := []) (nt := 5) (by decide +kernel) rfl rfl (hg_tys_ok ca) ?_ (by decide) rl10_forget ?_ rn10_forget
  · exact fun t ht => List.mem_cons_of_mem _ (hg_arr t ht)
  · intro a w hp ad p e R s m args below meth c hR X hEs hnm
    have hR1 : 0 ≤ R.frames ∧ 0 ≤ R.locals := by rw [hR]; exact ⟨Nat.le_refl _, Nat.le_refl _⟩
    refine ⟨kd10_forget_ok, fun index ci fi mode hq => kf10_ok X.2.2.2.2.1 (index, ci, fi, mode) (am_as_mem hq), fun index ci fs hq => (am_no hq).elim, fun x v hq => (am_no hq).elim, ?_, fun o n f hq => (am_no hq).elim, rfl, rfl, by rw [hR]; exact Nat.le_refl _, by rw [hR]; exact Nat.le_refl _⟩
    intro pc sel n0 pre0 f0 hq
    exact (am_no hq).elim
noncomputable def ki10_firstItem : List (Nat × Option (List Nat) × Nat × (List am_V → List am_C → Prop) × am_M) := []
noncomputable def kb10_firstItem : am_B := (kd10_firstItem, am_as kf10, hn_ty, fun _ => none, fun _ => none, am_as ki10_firstItem, fun _ => none, 5, 2, (some .int))
def fn10_firstItem (s : hs) (p0 : Int32) : Int32 := (if ((hm_alone s) (p0).toNatClampNeg) < 0 then (if ((hm_counts s) (p0).toNatClampNeg) ≤ 0 then (-1 : Int32) else ((4 : Int32) * p0)) else ((hm_alone s) (p0).toNatClampNeg))
def wp10_firstItem (s : hs) (p0 : Int32) : Prop := (am_inb p0 8 = true ∧ ((((hm_alone s) (p0).toNatClampNeg) < 0 → (am_inb p0 8 = true)) ∧ (¬ ((hm_alone s) (p0).toNatClampNeg) < 0 → (am_inb p0 8 = true))))
set_option maxRecDepth 100000 in
set_option maxHeartbeats 4000000 in
theorem re10_firstItem (s : hs) (p0 : Int32) (hp : wp10_firstItem s p0) : am_lf (am_mk kb10_firstItem 0 0 22) [] (0, am_L0 [.inr (.inl 0), .inl p0] 2, [], hm_w s, 0, 0) = some (some (.inl (fn10_firstItem s p0)), hm_w s) := by
  unfold wp10_firstItem at hp
  refine am_lf_eq ?_
  generalize am_lf (am_mk kb10_firstItem 0 0 22) [] = kt
  refine am_ci (c := am_inb p0 8 = true) hp.1 ?_
  refine am_if (c := ((hm_alone s) (p0).toNatClampNeg) < 0) (fun h1 => ?_) (fun h1 => ?_)
  · have q1 := hp.2.1 h1
    refine am_ci (c := am_inb p0 8 = true) q1 ?_
    refine am_if (c := ((hm_counts s) (p0).toNatClampNeg) ≤ 0) (fun h2 => ?_) (fun h2 => ?_)
    · have e : fn10_firstItem s p0 = (-1 : Int32) := by
        rw [fn10_firstItem]
        rw [if_pos h1, if_pos h2]
      rw [e] <;> rfl
    · have e : fn10_firstItem s p0 = ((4 : Int32) * p0) := by
        rw [fn10_firstItem]
        rw [if_pos h1, if_neg h2]
      rw [e] <;> rfl
  · have q1 := hp.2.2 h1
    refine am_ci (c := am_inb p0 8 = true) q1 ?_
    have e : fn10_firstItem s p0 = ((hm_alone s) (p0).toNatClampNeg) := by
      rw [fn10_firstItem]
      rw [if_neg h1]
    rw [e] <;> rfl
abbrev pr10_firstItem : List am_V → List am_C → Prop := hm_pr (fun s is => match is with
  | [p0] => wp10_firstItem s p0
  | _ => False)
def fm10_firstItem : am_M := hm_fn (fun s is => match is with
  | [p0] => (fn10_firstItem s p0, s)
  | _ => (0, s))
set_option maxRecDepth 100000 in
set_option maxHeartbeats 4000000 in
theorem rn10_firstItem : ∀ (a : List am_V) (w : List am_C), pr10_firstItem a w → ∃ n, am_ev (am_mk kb10_firstItem (fm10_firstItem a w).2.2.1 (fm10_firstItem a w).2.2.2 w.length) [] n (0, am_L0 a 2, [], w, 0, 0) = some ((fm10_firstItem a w).1, (fm10_firstItem a w).2.1) := by
  rintro a w ⟨s, is, rfl, rfl, hp⟩
  rcases is with _ | ⟨p0, _ | ⟨z, is⟩⟩
  · exact hp.elim
  · exact am_lf_ev (re10_firstItem s p0 hp)
  · exact hp.elim
theorem rl10_firstItem : ∀ (a : List am_V) (w : List am_C), pr10_firstItem a w → a.length ≤ 2 := by
  rintro a w ⟨s, is, rfl, rfl, hp⟩
  rcases is with _ | ⟨p0, _ | ⟨z, is⟩⟩
  · exact hp.elim
  · exact Nat.le_of_ble_eq_true rfl
  · exact hp.elim
set_option maxRecDepth 100000 in
set_option maxHeartbeats 4000000 in
theorem km10_firstItem {l : Launch} {E : (Nat → Prop) → State → Prop} {D : va_G} {ou : Nat → Nat} {ca : Nat → ClassId} (hE : am_EC E) : hg_Met l E D ou ca hy10_firstItem prog_12_method_53_code 2 (some .int) 0 pr10_firstItem fm10_firstItem := by
  refine am_met (B := kb10_firstItem) (cuts := []) (nt := 5) (by decide +kernel) rfl rfl (hg_tys_ok ca) ?_ (by decide) rl10_firstItem ?_ rn10_firstItem
  · exact fun t ht => List.mem_cons_of_mem _ (hg_arr t ht)
  · intro a w hp ad p e R s m args below meth c hR X hEs hnm
    have hR1 : 0 ≤ R.frames ∧ 0 ≤ R.locals := by rw [hR]; exact ⟨Nat.le_refl _, Nat.le_refl _⟩
    refine ⟨kd10_firstItem_ok, fun index ci fi mode hq => kf10_ok X.2.2.2.2.1 (index, ci, fi, mode) (am_as_mem hq), fun index ci fs hq => (am_no hq).elim, fun x v hq => (am_no hq).elim, ?_, fun o n f hq => (am_no hq).elim, rfl, rfl, by rw [hR]; exact Nat.le_refl _, by rw [hR]; exact Nat.le_refl _⟩
    intro pc sel n0 pre0 f0 hq
    exact (am_no hq).elim
noncomputable def ki10_hex : List (Nat × Option (List Nat) × Nat × (List am_V → List am_C → Prop) × am_M) := []
noncomputable def kb10_hex : am_B := (kd10_hex, am_as kf10, hn_ty, fun _ => none, fun _ => none, am_as ki10_hex, fun _ => none, 5, 2, (some .char))
def fn10_hex (s : hs) (p0 : Int32) : Int32 := (if (10 : Int32) ≤ p0 then ((((((65 : Int32) + p0) - (10 : Int32))).toUInt32 % 65536).toInt32) else (((((48 : Int32) + p0)).toUInt32 % 65536).toInt32))
def wp10_hex (s : hs) (p0 : Int32) : Prop := (((10 : Int32) ≤ p0 → (am_fit .char (.inl ((((((65 : Int32) + p0) - (10 : Int32))).toUInt32 % 65536).toInt32)) = true)) ∧ (¬ (10 : Int32) ≤ p0 → (am_fit .char (.inl (((((48 : Int32) + p0)).toUInt32 % 65536).toInt32)) = true)))
set_option maxRecDepth 100000 in
set_option maxHeartbeats 4000000 in
theorem re10_hex (s : hs) (p0 : Int32) (hp : wp10_hex s p0) : am_lf (am_mk kb10_hex 0 0 22) [] (0, am_L0 [.inr (.inl 0), .inl p0] 2, [], hm_w s, 0, 0) = some (some (.inl (fn10_hex s p0)), hm_w s) := by
  unfold wp10_hex at hp
  refine am_lf_eq ?_
  generalize am_lf (am_mk kb10_hex 0 0 22) [] = kt
  refine am_if (c := (10 : Int32) ≤ p0) (fun h1 => ?_) (fun h1 => ?_)
  · have q1 := hp.1 h1
    refine am_ci (c := am_fit .char (.inl ((((((65 : Int32) + p0) - (10 : Int32))).toUInt32 % 65536).toInt32)) = true) q1 ?_
    have e : fn10_hex s p0 = ((((((65 : Int32) + p0) - (10 : Int32))).toUInt32 % 65536).toInt32) := by
      rw [fn10_hex]
      rw [if_pos h1]
    rw [e] <;> rfl
  · have q1 := hp.2 h1
    refine am_ci (c := am_fit .char (.inl (((((48 : Int32) + p0)).toUInt32 % 65536).toInt32)) = true) q1 ?_
    have e : fn10_hex s p0 = (((((48 : Int32) + p0)).toUInt32 % 65536).toInt32) := by
      rw [fn10_hex]
      rw [if_neg h1]
    rw [e] <;> rfl
abbrev pr10_hex : List am_V → List am_C → Prop := hm_pr (fun s is => match is with
  | [p0] => wp10_hex s p0
  | _ => False)
def fm10_hex : am_M := hm_fn (fun s is => match is with
  | [p0] => (fn10_hex s p0, s)
  | _ => (0, s))
set_option maxRecDepth 100000 in
set_option maxHeartbeats 4000000 in
theorem rn10_hex : ∀ (a : List am_V) (w : List am_C), pr10_hex a w → ∃ n, am_ev (am_mk kb10_hex (fm10_hex a w).2.2.1 (fm10_hex a w).2.2.2 w.length) [] n (0, am_L0 a 2, [], w, 0, 0) = some ((fm10_hex a w).1, (fm10_hex a w).2.1) := by
  rintro a w ⟨s, is, rfl, rfl, hp⟩
  rcases is with _ | ⟨p0, _ | ⟨z, is⟩⟩
  · exact hp.elim
  · exact am_lf_ev (re10_hex s p0 hp)
  · exact hp.elim
theorem rl10_hex : ∀ (a : List am_V) (w : List am_C), pr10_hex a w → a.length ≤ 2 := by
  rintro a w ⟨s, is, rfl, rfl, hp⟩
  rcases is with _ | ⟨p0, _ | ⟨z, is⟩⟩
  · exact hp.elim
  · exact Nat.le_of_ble_eq_true rfl
  · exact hp.elim
set_option maxRecDepth 100000 in
set_option maxHeartbeats 4000000 in
theorem km10_hex {l : Launch} {E : (Nat → Prop) → State → Prop} {D : va_G} {ou : Nat → Nat} {ca : Nat → ClassId} (hE : am_EC E) : hg_Met l E D ou ca hy10_hex prog_12_method_55_code 2 (some .char) 0 pr10_hex fm10_hex := by
  refine am_met (B := kb10_hex) (cuts := []) (nt := 5) (by decide +kernel) rfl rfl (hg_tys_ok ca) ?_ (by decide) rl10_hex ?_ rn10_hex
  · exact fun t ht => List.mem_cons_of_mem _ (hg_arr t ht)
  · intro a w hp ad p e R s m args below meth c hR X hEs hnm
    have hR1 : 0 ≤ R.frames ∧ 0 ≤ R.locals := by rw [hR]; exact ⟨Nat.le_refl _, Nat.le_refl _⟩
    refine ⟨kd10_hex_ok, fun index ci fi mode hq => kf10_ok X.2.2.2.2.1 (index, ci, fi, mode) (am_as_mem hq), fun index ci fs hq => (am_no hq).elim, fun x v hq => (am_no hq).elim, ?_, fun o n f hq => (am_no hq).elim, rfl, rfl, by rw [hR]; exact Nat.le_refl _, by rw [hR]; exact Nat.le_refl _⟩
    intro pc sel n0 pre0 f0 hq
    exact (am_no hq).elim
noncomputable def ki10_staysInUrl : List (Nat × Option (List Nat) × Nat × (List am_V → List am_C → Prop) × am_M) := []
noncomputable def kb10_staysInUrl : am_B := (kd10_staysInUrl, am_as kf10, hn_ty, fun _ => none, fun _ => none, am_as ki10_staysInUrl, fun _ => none, 5, 1, (some .boolean))
def fn10_staysInUrl (p0 : Int32) : Int32 := (if p0 = (47 : Int32) then (1 : Int32) else (if p0 = (58 : Int32) then (1 : Int32) else (if p0 = (64 : Int32) then (1 : Int32) else (if p0 = (33 : Int32) then (1 : Int32) else (if p0 = (36 : Int32) then (1 : Int32) else (if p0 = (42 : Int32) then (1 : Int32) else (if p0 = (43 : Int32) then (1 : Int32) else (if p0 = (44 : Int32) then (1 : Int32) else (if p0 = (59 : Int32) then (1 : Int32) else (if p0 = (61 : Int32) then (1 : Int32) else (if p0 = (63 : Int32) then (1 : Int32) else (if p0 = (35 : Int32) then (1 : Int32) else (0 : Int32)))))))))))))
def wp10_staysInUrl (p0 : Int32) : Prop := True
set_option maxRecDepth 100000 in
set_option maxHeartbeats 4000000 in
theorem re10_staysInUrl (p0 : Int32) (hp : wp10_staysInUrl p0) : am_lf (am_mk kb10_staysInUrl 0 0 0) [] (0, am_L0 [.inl p0] 1, [], [], 0, 0) = some (some (.inl (fn10_staysInUrl p0)), []) := by
  unfold wp10_staysInUrl at hp
  refine am_lf_eq ?_
  generalize am_lf (am_mk kb10_staysInUrl 0 0 0) [] = kt
  refine am_if (c := p0 = (47 : Int32)) (fun h1 => ?_) (fun h1 => ?_)
  · have e : fn10_staysInUrl p0 = (1 : Int32) := by
      rw [fn10_staysInUrl]
      rw [if_pos h1]
    rw [e] <;> rfl
  · refine am_if (c := p0 = (58 : Int32)) (fun h2 => ?_) (fun h2 => ?_)
    · have e : fn10_staysInUrl p0 = (1 : Int32) := by
        rw [fn10_staysInUrl]
        rw [if_neg h1, if_pos h2]
      rw [e] <;> rfl
    · refine am_if (c := p0 = (64 : Int32)) (fun h3 => ?_) (fun h3 => ?_)
      · have e : fn10_staysInUrl p0 = (1 : Int32) := by
          rw [fn10_staysInUrl]
          rw [if_neg h1, if_neg h2, if_pos h3]
        rw [e] <;> rfl
      · refine am_if (c := p0 = (33 : Int32)) (fun h4 => ?_) (fun h4 => ?_)
        · have e : fn10_staysInUrl p0 = (1 : Int32) := by
            rw [fn10_staysInUrl]
            rw [if_neg h1, if_neg h2, if_neg h3, if_pos h4]
          rw [e] <;> rfl
        · refine am_if (c := p0 = (36 : Int32)) (fun h5 => ?_) (fun h5 => ?_)
          · have e : fn10_staysInUrl p0 = (1 : Int32) := by
              rw [fn10_staysInUrl]
              rw [if_neg h1, if_neg h2, if_neg h3, if_neg h4, if_pos h5]
            rw [e] <;> rfl
          · refine am_if (c := p0 = (42 : Int32)) (fun h6 => ?_) (fun h6 => ?_)
            · have e : fn10_staysInUrl p0 = (1 : Int32) := by
                rw [fn10_staysInUrl]
                rw [if_neg h1, if_neg h2, if_neg h3, if_neg h4, if_neg h5, if_pos h6]
              rw [e] <;> rfl
            · refine am_if (c := p0 = (43 : Int32)) (fun h7 => ?_) (fun h7 => ?_)
              · have e : fn10_staysInUrl p0 = (1 : Int32) := by
                  rw [fn10_staysInUrl]
                  rw [if_neg h1, if_neg h2, if_neg h3, if_neg h4, if_neg h5, if_neg h6, if_pos h7]
                rw [e] <;> rfl
              · refine am_if (c := p0 = (44 : Int32)) (fun h8 => ?_) (fun h8 => ?_)
                · have e : fn10_staysInUrl p0 = (1 : Int32) := by
                    rw [fn10_staysInUrl]
                    rw [if_neg h1, if_neg h2, if_neg h3, if_neg h4, if_neg h5, if_neg h6, if_neg h7, if_pos h8]
                  rw [e] <;> rfl
                · refine am_if (c := p0 = (59 : Int32)) (fun h9 => ?_) (fun h9 => ?_)
                  · have e : fn10_staysInUrl p0 = (1 : Int32) := by
                      rw [fn10_staysInUrl]
                      rw [if_neg h1, if_neg h2, if_neg h3, if_neg h4, if_neg h5, if_neg h6, if_neg h7, if_neg h8, if_pos h9]
                    rw [e] <;> rfl
                  · refine am_if (c := p0 = (61 : Int32)) (fun h10 => ?_) (fun h10 => ?_)
                    · have e : fn10_staysInUrl p0 = (1 : Int32) := by
                        rw [fn10_staysInUrl]
                        rw [if_neg h1, if_neg h2, if_neg h3, if_neg h4, if_neg h5, if_neg h6, if_neg h7, if_neg h8, if_neg h9, if_pos h10]
                      rw [e] <;> rfl
                    · refine am_if (c := p0 = (63 : Int32)) (fun h11 => ?_) (fun h11 => ?_)
                      · have e : fn10_staysInUrl p0 = (1 : Int32) := by
                          rw [fn10_staysInUrl]
                          rw [if_neg h1, if_neg h2, if_neg h3, if_neg h4, if_neg h5, if_neg h6, if_neg h7, if_neg h8, if_neg h9, if_neg h10, if_pos h11]
                        rw [e] <;> rfl
                      · refine am_if (c := p0 = (35 : Int32)) (fun h12 => ?_) (fun h12 => ?_)
                        · have e : fn10_staysInUrl p0 = (1 : Int32) := by
                            rw [fn10_staysInUrl]
                            rw [if_neg h1, if_neg h2, if_neg h3, if_neg h4, if_neg h5, if_neg h6, if_neg h7, if_neg h8, if_neg h9, if_neg h10, if_neg h11, if_pos h12]
                          rw [e] <;> rfl
                        · have e : fn10_staysInUrl p0 = (0 : Int32) := by
                            rw [fn10_staysInUrl]
                            rw [if_neg h1, if_neg h2, if_neg h3, if_neg h4, if_neg h5, if_neg h6, if_neg h7, if_neg h8, if_neg h9, if_neg h10, if_neg h11, if_neg h12]
                          rw [e] <;> rfl
abbrev pr10_staysInUrl : List am_V → List am_C → Prop := hz_pr (fun is => match is with
  | [p0] => wp10_staysInUrl p0
  | _ => False)
def fm10_staysInUrl : am_M := hz_fn (fun is => match is with
  | [p0] => fn10_staysInUrl p0
  | _ => 0)
set_option maxRecDepth 100000 in
set_option maxHeartbeats 4000000 in
theorem rn10_staysInUrl : ∀ (a : List am_V) (w : List am_C), pr10_staysInUrl a w → ∃ n, am_ev (am_mk kb10_staysInUrl (fm10_staysInUrl a w).2.2.1 (fm10_staysInUrl a w).2.2.2 w.length) [] n (0, am_L0 a 1, [], w, 0, 0) = some ((fm10_staysInUrl a w).1, (fm10_staysInUrl a w).2.1) := by
  rintro a w ⟨is, rfl, rfl, hp⟩
  rcases is with _ | ⟨p0, _ | ⟨z, is⟩⟩
  · exact hp.elim
  · exact am_lf_ev (re10_staysInUrl p0 hp)
  · exact hp.elim
theorem rl10_staysInUrl : ∀ (a : List am_V) (w : List am_C), pr10_staysInUrl a w → a.length ≤ 1 := by
  rintro a w ⟨is, rfl, rfl, hp⟩
  rcases is with _ | ⟨p0, _ | ⟨z, is⟩⟩
  · exact hp.elim
  · exact Nat.le_of_ble_eq_true rfl
  · exact hp.elim
set_option maxRecDepth 100000 in
set_option maxHeartbeats 4000000 in
theorem km10_staysInUrl {l : Launch} {E : (Nat → Prop) → State → Prop} {D : va_G} {ou : Nat → Nat} {ca : Nat → ClassId} (hE : am_EC E) : hg_Met l E D ou ca hy10_staysInUrl prog_12_method_59_code 1 (some .boolean) 0 pr10_staysInUrl fm10_staysInUrl := by
  refine am_met (B := kb10_staysInUrl) (cuts := []) (nt := 5) (by decide +kernel) rfl rfl (hg_tys_ok ca) ?_ (by decide) rl10_staysInUrl ?_ rn10_staysInUrl
  · exact fun t ht => List.mem_cons_of_mem _ (hg_arr t ht)
  · intro a w hp ad p e R s m args below meth c hR X hEs hnm
    have hR1 : 0 ≤ R.frames ∧ 0 ≤ R.locals := by rw [hR]; exact ⟨Nat.le_refl _, Nat.le_refl _⟩
    refine ⟨kd10_staysInUrl_ok, fun index ci fi mode hq => kf10_ok X.2.2.2.2.1 (index, ci, fi, mode) (am_as_mem hq), fun index ci fs hq => (am_no hq).elim, fun x v hq => (am_no hq).elim, ?_, fun o n f hq => (am_no hq).elim, rfl, rfl, by rw [hR]; exact Nat.le_refl _, by rw [hR]; exact Nat.le_refl _⟩
    intro pc sel n0 pre0 f0 hq
    exact (am_no hq).elim
noncomputable def ki10_small : List (Nat × Option (List Nat) × Nat × (List am_V → List am_C → Prop) × am_M) := []
noncomputable def kb10_small : am_B := (kd10_small, am_as kf10, hn_ty, fun _ => none, fun _ => none, am_as ki10_small, fun _ => none, 5, 2, (some .char))
def fn10_small (s : hs) (p0 : Int32) : Int32 := (if p0 < (65 : Int32) then p0 else (if (90 : Int32) < p0 then p0 else ((((p0 + (32 : Int32))).toUInt32 % 65536).toInt32)))
def wp10_small (s : hs) (p0 : Int32) : Prop := ((p0 < (65 : Int32) → (am_fit .char (.inl p0) = true)) ∧ (¬ p0 < (65 : Int32) → (((90 : Int32) < p0 → (am_fit .char (.inl p0) = true)) ∧ (¬ (90 : Int32) < p0 → (am_fit .char (.inl ((((p0 + (32 : Int32))).toUInt32 % 65536).toInt32)) = true)))))
set_option maxRecDepth 100000 in
set_option maxHeartbeats 4000000 in
theorem re10_small (s : hs) (p0 : Int32) (hp : wp10_small s p0) : am_lf (am_mk kb10_small 0 0 22) [] (0, am_L0 [.inr (.inl 0), .inl p0] 2, [], hm_w s, 0, 0) = some (some (.inl (fn10_small s p0)), hm_w s) := by
  unfold wp10_small at hp
  refine am_lf_eq ?_
  generalize am_lf (am_mk kb10_small 0 0 22) [] = kt
  refine am_if (c := p0 < (65 : Int32)) (fun h1 => ?_) (fun h1 => ?_)
  · have q1 := hp.1 h1
    refine am_ci (c := am_fit .char (.inl p0) = true) q1 ?_
    have e : fn10_small s p0 = p0 := by
      rw [fn10_small]
      rw [if_pos h1]
    rw [e] <;> rfl
  · have q1 := hp.2 h1
    refine am_if (c := (90 : Int32) < p0) (fun h2 => ?_) (fun h2 => ?_)
    · have q2 := q1.1 h2
      refine am_ci (c := am_fit .char (.inl p0) = true) q2 ?_
      have e : fn10_small s p0 = p0 := by
        rw [fn10_small]
        rw [if_neg h1, if_pos h2]
      rw [e] <;> rfl
    · have q2 := q1.2 h2
      refine am_ci (c := am_fit .char (.inl ((((p0 + (32 : Int32))).toUInt32 % 65536).toInt32)) = true) q2 ?_
      have e : fn10_small s p0 = ((((p0 + (32 : Int32))).toUInt32 % 65536).toInt32) := by
        rw [fn10_small]
        rw [if_neg h1, if_neg h2]
      rw [e] <;> rfl
abbrev pr10_small : List am_V → List am_C → Prop := hm_pr (fun s is => match is with
  | [p0] => wp10_small s p0
  | _ => False)
def fm10_small : am_M := hm_fn (fun s is => match is with
  | [p0] => (fn10_small s p0, s)
  | _ => (0, s))
set_option maxRecDepth 100000 in
set_option maxHeartbeats 4000000 in
theorem rn10_small : ∀ (a : List am_V) (w : List am_C), pr10_small a w → ∃ n, am_ev (am_mk kb10_small (fm10_small a w).2.2.1 (fm10_small a w).2.2.2 w.length) [] n (0, am_L0 a 2, [], w, 0, 0) = some ((fm10_small a w).1, (fm10_small a w).2.1) := by
  rintro a w ⟨s, is, rfl, rfl, hp⟩
  rcases is with _ | ⟨p0, _ | ⟨z, is⟩⟩
  · exact hp.elim
  · exact am_lf_ev (re10_small s p0 hp)
  · exact hp.elim
theorem rl10_small : ∀ (a : List am_V) (w : List am_C), pr10_small a w → a.length ≤ 2 := by
  rintro a w ⟨s, is, rfl, rfl, hp⟩
  rcases is with _ | ⟨p0, _ | ⟨z, is⟩⟩
  · exact hp.elim
  · exact Nat.le_of_ble_eq_true rfl
  · exact hp.elim
set_option maxRecDepth 100000 in
set_option maxHeartbeats 4000000 in
theorem km10_small {l : Launch} {E : (Nat → Prop) → State → Prop} {D : va_G} {ou : Nat → Nat} {ca : Nat → ClassId} (hE : am_EC E) : hg_Met l E D ou ca hy10_small prog_12_method_61_code 2 (some .char) 0 pr10_small fm10_small := by
  refine am_met (B := kb10_small) (cuts := []) (nt := 5) (by decide +kernel) rfl rfl (hg_tys_ok ca) ?_ (by decide) rl10_small ?_ rn10_small
  · exact fun t ht => List.mem_cons_of_mem _ (hg_arr t ht)
  · intro a w hp ad p e R s m args below meth c hR X hEs hnm
    have hR1 : 0 ≤ R.frames ∧ 0 ≤ R.locals := by rw [hR]; exact ⟨Nat.le_refl _, Nat.le_refl _⟩
    refine ⟨kd10_small_ok, fun index ci fi mode hq => kf10_ok X.2.2.2.2.1 (index, ci, fi, mode) (am_as_mem hq), fun index ci fs hq => (am_no hq).elim, fun x v hq => (am_no hq).elim, ?_, fun o n f hq => (am_no hq).elim, rfl, rfl, by rw [hR]; exact Nat.le_refl _, by rw [hR]; exact Nat.le_refl _⟩
    intro pc sel n0 pre0 f0 hq
    exact (am_no hq).elim
noncomputable def ki10_staysInCode : List (Nat × Option (List Nat) × Nat × (List am_V → List am_C → Prop) × am_M) := [(1, some [], 1, pr10_isWord, fm10_isWord)]
noncomputable def kb10_staysInCode : am_B := (kd10_staysInCode, am_as kf10, hn_ty, fun _ => none, fun _ => none, am_as ki10_staysInCode, fun _ => none, 5, 1, (some .boolean))
def fn10_staysInCode (p0 : Int32) : Int32 := (if (fn10_isWord p0) = 0 then (if p0 = (32 : Int32) then (1 : Int32) else (if p0 = (46 : Int32) then (1 : Int32) else (if p0 = (44 : Int32) then (1 : Int32) else (if p0 = (45 : Int32) then (1 : Int32) else (if p0 = (95 : Int32) then (1 : Int32) else (0 : Int32)))))) else (1 : Int32))
def wp10_staysInCode (p0 : Int32) : Prop := (wp10_isWord p0)
set_option maxRecDepth 100000 in
set_option maxHeartbeats 4000000 in
theorem re10_staysInCode (p0 : Int32) (hp : wp10_staysInCode p0) : am_lf (am_mk kb10_staysInCode 0 0 0) [] (0, am_L0 [.inl p0] 1, [], [], 0, 0) = some (some (.inl (fn10_staysInCode p0)), []) := by
  unfold wp10_staysInCode at hp
  refine am_lf_eq ?_
  generalize am_lf (am_mk kb10_staysInCode 0 0 0) [] = kt
  refine am_cy (pre := pr10_isWord) (f := fm10_isWord) (r := (some (.inl (fn10_isWord p0)), [], 0, 0)) ?_ ?_ ?_
  · exact ⟨[p0], rfl, rfl, hp⟩
  · rfl
  refine am_if (c := (fn10_isWord p0) = 0) (fun h1 => ?_) (fun h1 => ?_)
  · refine am_if (c := p0 = (32 : Int32)) (fun h2 => ?_) (fun h2 => ?_)
    · have e : fn10_staysInCode p0 = (1 : Int32) := by
        rw [fn10_staysInCode]
        rw [if_pos h1, if_pos h2]
      rw [e] <;> rfl
    · refine am_if (c := p0 = (46 : Int32)) (fun h3 => ?_) (fun h3 => ?_)
      · have e : fn10_staysInCode p0 = (1 : Int32) := by
          rw [fn10_staysInCode]
          rw [if_pos h1, if_neg h2, if_pos h3]
        rw [e] <;> rfl
      · refine am_if (c := p0 = (44 : Int32)) (fun h4 => ?_) (fun h4 => ?_)
        · have e : fn10_staysInCode p0 = (1 : Int32) := by
            rw [fn10_staysInCode]
            rw [if_pos h1, if_neg h2, if_neg h3, if_pos h4]
          rw [e] <;> rfl
        · refine am_if (c := p0 = (45 : Int32)) (fun h5 => ?_) (fun h5 => ?_)
          · have e : fn10_staysInCode p0 = (1 : Int32) := by
              rw [fn10_staysInCode]
              rw [if_pos h1, if_neg h2, if_neg h3, if_neg h4, if_pos h5]
            rw [e] <;> rfl
          · refine am_if (c := p0 = (95 : Int32)) (fun h6 => ?_) (fun h6 => ?_)
            · have e : fn10_staysInCode p0 = (1 : Int32) := by
                rw [fn10_staysInCode]
                rw [if_pos h1, if_neg h2, if_neg h3, if_neg h4, if_neg h5, if_pos h6]
              rw [e] <;> rfl
            · have e : fn10_staysInCode p0 = (0 : Int32) := by
                rw [fn10_staysInCode]
                rw [if_pos h1, if_neg h2, if_neg h3, if_neg h4, if_neg h5, if_neg h6]
              rw [e] <;> rfl
  · have e : fn10_staysInCode p0 = (1 : Int32) := by
      rw [fn10_staysInCode]
      rw [if_neg h1]
    rw [e] <;> rfl
abbrev pr10_staysInCode : List am_V → List am_C → Prop := hz_pr (fun is => match is with
  | [p0] => wp10_staysInCode p0
  | _ => False)
def fm10_staysInCode : am_M := hz_fn (fun is => match is with
  | [p0] => fn10_staysInCode p0
  | _ => 0)
set_option maxRecDepth 100000 in
set_option maxHeartbeats 4000000 in
theorem rn10_staysInCode : ∀ (a : List am_V) (w : List am_C), pr10_staysInCode a w → ∃ n, am_ev (am_mk kb10_staysInCode (fm10_staysInCode a w).2.2.1 (fm10_staysInCode a w).2.2.2 w.length) [] n (0, am_L0 a 1, [], w, 0, 0) = some ((fm10_staysInCode a w).1, (fm10_staysInCode a w).2.1) := by
  rintro a w ⟨is, rfl, rfl, hp⟩
  rcases is with _ | ⟨p0, _ | ⟨z, is⟩⟩
  · exact hp.elim
  · exact am_lf_ev (re10_staysInCode p0 hp)
  · exact hp.elim
theorem rl10_staysInCode : ∀ (a : List am_V) (w : List am_C), pr10_staysInCode a w → a.length ≤ 1 := by
  rintro a w ⟨is, rfl, rfl, hp⟩
  rcases is with _ | ⟨p0, _ | ⟨z, is⟩⟩
  · exact hp.elim
  · exact Nat.le_of_ble_eq_true rfl
  · exact hp.elim
set_option maxRecDepth 100000 in
set_option maxHeartbeats 4000000 in
theorem km10_staysInCode {l : Launch} {E : (Nat → Prop) → State → Prop} {D : va_G} {ou : Nat → Nat} {ca : Nat → ClassId} (hE : am_EC E) : hg_Met l E D ou ca hy10_staysInCode prog_12_method_64_code 1 (some .boolean) 2 pr10_staysInCode fm10_staysInCode := by
  refine am_met (B := kb10_staysInCode) (cuts := []) (nt := 5) (by decide +kernel) rfl rfl (hg_tys_ok ca) ?_ (by decide) rl10_staysInCode ?_ rn10_staysInCode
  · exact fun t ht => List.mem_cons_of_mem _ (hg_arr t ht)
  · intro a w hp ad p e R s m args below meth c hR X hEs hnm
    have hR1 : 2 ≤ R.frames ∧ 80 ≤ R.locals := by rw [hR]; exact ⟨Nat.le_refl _, Nat.le_refl _⟩
    refine ⟨kd10_staysInCode_ok, fun index ci fi mode hq => kf10_ok X.2.2.2.2.1 (index, ci, fi, mode) (am_as_mem hq), fun index ci fs hq => (am_no hq).elim, fun x v hq => (am_no hq).elim, ?_, fun o n f hq => (am_no hq).elim, rfl, rfl, by rw [hR]; exact Nat.le_refl _, by rw [hR]; exact Nat.le_refl _⟩
    intro pc sel n0 pre0 f0 hq
    have hz : ∀ q ∈ ki10_staysInCode, am_CK p l e R s m args below meth c D hn_cl (va_A (am_w ad ou ca w) s.heap.size) ou ca 1 q.1 q.2.2.1 q.2.2.2.1 q.2.2.2.2 := by
      refine am_allc (am_ck_S (n := 1) X hEs hE (km10_isWord hE) (hg_good (gw_mem 1154 (by decide +kernel))) rfl (List.mem_cons_of_mem _ (gw_mem 76 (by decide +kernel))) (List.mem_cons_of_mem _ (gw_mem 1152 (by decide +kernel))) (List.mem_cons_of_mem _ (gw_mem 1153 (by decide +kernel))) (by decide +kernel) ⟨Nat.le_trans (by decide) hR1.1, Nat.le_trans (by decide) hR1.2⟩ (kd10_staysInCode_ok (1, .invokestatic 140, 3) (List.mem_of_getElem? (i := 1) rfl))) (am_all0)
    exact hz _ (am_as_mem hq)
noncomputable def ki10_variable : List (Nat × Option (List Nat) × Nat × (List am_V → List am_C → Prop) × am_M) := []
noncomputable def kb10_variable : am_B := (kd10_variable, am_as kf10, hn_ty, fun _ => none, fun _ => none, am_as ki10_variable, fun _ => none, 5, 2, (some .int))
def fn10_variable (s : hs) (p0 : Int32) : Int32 := (((hm_sign s) (p0).toNatClampNeg) - (97 : Int32))
def wp10_variable (s : hs) (p0 : Int32) : Prop := (am_inb p0 240 = true)
set_option maxRecDepth 100000 in
set_option maxHeartbeats 4000000 in
theorem re10_variable (s : hs) (p0 : Int32) (hp : wp10_variable s p0) : am_lf (am_mk kb10_variable 0 0 22) [] (0, am_L0 [.inr (.inl 0), .inl p0] 2, [], hm_w s, 0, 0) = some (some (.inl (fn10_variable s p0)), hm_w s) := by
  unfold wp10_variable at hp
  refine am_lf_eq ?_
  generalize am_lf (am_mk kb10_variable 0 0 22) [] = kt
  refine am_ci (c := am_inb p0 240 = true) hp ?_
  rfl
abbrev pr10_variable : List am_V → List am_C → Prop := hm_pr (fun s is => match is with
  | [p0] => wp10_variable s p0
  | _ => False)
def fm10_variable : am_M := hm_fn (fun s is => match is with
  | [p0] => (fn10_variable s p0, s)
  | _ => (0, s))
set_option maxRecDepth 100000 in
set_option maxHeartbeats 4000000 in
theorem rn10_variable : ∀ (a : List am_V) (w : List am_C), pr10_variable a w → ∃ n, am_ev (am_mk kb10_variable (fm10_variable a w).2.2.1 (fm10_variable a w).2.2.2 w.length) [] n (0, am_L0 a 2, [], w, 0, 0) = some ((fm10_variable a w).1, (fm10_variable a w).2.1) := by
  rintro a w ⟨s, is, rfl, rfl, hp⟩
  rcases is with _ | ⟨p0, _ | ⟨z, is⟩⟩
  · exact hp.elim
  · exact am_lf_ev (re10_variable s p0 hp)
  · exact hp.elim
theorem rl10_variable : ∀ (a : List am_V) (w : List am_C), pr10_variable a w → a.length ≤ 2 := by
  rintro a w ⟨s, is, rfl, rfl, hp⟩
  rcases is with _ | ⟨p0, _ | ⟨z, is⟩⟩
  · exact hp.elim
  · exact Nat.le_of_ble_eq_true rfl
  · exact hp.elim
set_option maxRecDepth 100000 in
set_option maxHeartbeats 4000000 in
theorem km10_variable {l : Launch} {E : (Nat → Prop) → State → Prop} {D : va_G} {ou : Nat → Nat} {ca : Nat → ClassId} (hE : am_EC E) : hg_Met l E D ou ca hy10_variable prog_12_method_69_code 2 (some .int) 0 pr10_variable fm10_variable := by
  refine am_met (B := kb10_variable) (cuts := []) (nt := 5) (by decide +kernel) rfl rfl (hg_tys_ok ca) ?_ (by decide) rl10_variable ?_ rn10_variable
  · exact fun t ht => List.mem_cons_of_mem _ (hg_arr t ht)
  · intro a w hp ad p e R s m args below meth c hR X hEs hnm
    have hR1 : 0 ≤ R.frames ∧ 0 ≤ R.locals := by rw [hR]; exact ⟨Nat.le_refl _, Nat.le_refl _⟩
    refine ⟨kd10_variable_ok, fun index ci fi mode hq => kf10_ok X.2.2.2.2.1 (index, ci, fi, mode) (am_as_mem hq), fun index ci fs hq => (am_no hq).elim, fun x v hq => (am_no hq).elim, ?_, fun o n f hq => (am_no hq).elim, rfl, rfl, by rw [hR]; exact Nat.le_refl _, by rw [hR]; exact Nat.le_refl _⟩
    intro pc sel n0 pre0 f0 hq
    exact (am_no hq).elim
noncomputable def ki10_written : List (Nat × Option (List Nat) × Nat × (List am_V → List am_C → Prop) × am_M) := []
noncomputable def kb10_written : am_B := (kd10_written, am_as kf10, hn_ty, fun _ => none, fun _ => none, am_as ki10_written, fun _ => none, 5, 1, (some .int))
def fn10_written (s : hs) : Int32 × hs := ((hm_size (hu_thrown s (0 : Int32))), (hu_thrown s (0 : Int32)))
def wp10_written (s : hs) : Prop := True
set_option maxRecDepth 100000 in
set_option maxHeartbeats 4000000 in
theorem re10_written (s : hs) (hp : wp10_written s) : am_lf (am_mk kb10_written 0 0 22) [] (0, am_L0 [.inr (.inl 0)] 1, [], hm_w s, 0, 0) = some (some (.inl (fn10_written s).1), hm_w (fn10_written s).2) := by
  unfold wp10_written at hp
  refine am_lf_eq ?_
  generalize am_lf (am_mk kb10_written 0 0 22) [] = kt
  rfl
abbrev pr10_written : List am_V → List am_C → Prop := hm_pr (fun s is => match is with
  | [] => wp10_written s
  | _ => False)
def fm10_written : am_M := hm_fn (fun s is => match is with
  | [] => fn10_written s
  | _ => (0, s))
set_option maxRecDepth 100000 in
set_option maxHeartbeats 4000000 in
theorem rn10_written : ∀ (a : List am_V) (w : List am_C), pr10_written a w → ∃ n, am_ev (am_mk kb10_written (fm10_written a w).2.2.1 (fm10_written a w).2.2.2 w.length) [] n (0, am_L0 a 1, [], w, 0, 0) = some ((fm10_written a w).1, (fm10_written a w).2.1) := by
  rintro a w ⟨s, is, rfl, rfl, hp⟩
  rcases is with _ | ⟨z, is⟩
  · exact am_lf_ev (re10_written s hp)
  · exact hp.elim
theorem rl10_written : ∀ (a : List am_V) (w : List am_C), pr10_written a w → a.length ≤ 1 := by
  rintro a w ⟨s, is, rfl, rfl, hp⟩
  rcases is with _ | ⟨z, is⟩
  · exact Nat.le_of_ble_eq_true rfl
  · exact hp.elim
set_option maxRecDepth 100000 in
set_option maxHeartbeats 4000000 in
theorem km10_written {l : Launch} {E : (Nat → Prop) → State → Prop} {D : va_G} {ou : Nat → Nat} {ca : Nat → ClassId} (hE : am_EC E) : hg_Met l E D ou ca hy10_written prog_12_method_74_code 1 (some .int) 0 pr10_written fm10_written := by
  refine am_met (B := kb10_written) (cuts := []) (nt := 5) (by decide +kernel) rfl rfl (hg_tys_ok ca) ?_ (by decide) rl10_written ?_ rn10_written
  · exact fun t ht => List.mem_cons_of_mem _ (hg_arr t ht)
  · intro a w hp ad p e R s m args below meth c hR X hEs hnm
    have hR1 : 0 ≤ R.frames ∧ 0 ≤ R.locals := by rw [hR]; exact ⟨Nat.le_refl _, Nat.le_refl _⟩
    refine ⟨kd10_written_ok, fun index ci fi mode hq => kf10_ok X.2.2.2.2.1 (index, ci, fi, mode) (am_as_mem hq), fun index ci fs hq => (am_no hq).elim, fun x v hq => (am_no hq).elim, ?_, fun o n f hq => (am_no hq).elim, rfl, rfl, by rw [hR]; exact Nat.le_refl _, by rw [hR]; exact Nat.le_refl _⟩
    intro pc sel n0 pre0 f0 hq
    exact (am_no hq).elim
noncomputable def ki10_letter : List (Nat × Option (List Nat) × Nat × (List am_V → List am_C → Prop) × am_M) := []
noncomputable def kb10_letter : am_B := (kd10_letter, am_as kf10, hn_ty, fun _ => none, fun _ => none, am_as ki10_letter, fun _ => none, 5, 2, (some .char))
def fn10_letter (s : hs) (p0 : Int32) : Int32 × hs := (if p0 < 0 then ((0 : Int32), (hu_thrown s (0 : Int32))) else (if (hm_size (hu_thrown s (0 : Int32))) ≤ p0 then ((0 : Int32), (hu_thrown s (0 : Int32))) else (((hm_out (hu_thrown s (0 : Int32))) (p0).toNatClampNeg), (hu_thrown s (0 : Int32)))))
def wp10_letter (s : hs) (p0 : Int32) : Prop := ((p0 < 0 → True) ∧ (¬ p0 < 0 → (((hm_size (hu_thrown s (0 : Int32))) ≤ p0 → True) ∧ (¬ (hm_size (hu_thrown s (0 : Int32))) ≤ p0 → (am_inb p0 1000 = true ∧ (am_fit .char (.inl ((hm_out (hu_thrown s (0 : Int32))) (p0).toNatClampNeg)) = true))))))
set_option maxRecDepth 100000 in
set_option maxHeartbeats 4000000 in
theorem re10_letter (s : hs) (p0 : Int32) (hp : wp10_letter s p0) : am_lf (am_mk kb10_letter 0 0 22) [] (0, am_L0 [.inr (.inl 0), .inl p0] 2, [], hm_w s, 0, 0) = some (some (.inl (fn10_letter s p0).1), hm_w (fn10_letter s p0).2) := by
  unfold wp10_letter at hp
  refine am_lf_eq ?_
  generalize am_lf (am_mk kb10_letter 0 0 22) [] = kt
  refine am_if (c := p0 < 0) (fun h1 => ?_) (fun h1 => ?_)
  · have e : fn10_letter s p0 = ((0 : Int32), (hu_thrown s (0 : Int32))) := by
      rw [fn10_letter]
      rw [if_pos h1]
    rw [e] <;> rfl
  · have q1 := hp.2 h1
    refine am_if (c := (hm_size (hu_thrown s (0 : Int32))) ≤ p0) (fun h2 => ?_) (fun h2 => ?_)
    · have e : fn10_letter s p0 = ((0 : Int32), (hu_thrown s (0 : Int32))) := by
        rw [fn10_letter]
        rw [if_neg h1, if_pos h2]
      rw [e] <;> rfl
    · have q2 := q1.2 h2
      refine am_ci (c := am_inb p0 1000 = true) q2.1 ?_
      refine am_ci (c := am_fit .char (.inl ((hm_out (hu_thrown s (0 : Int32))) (p0).toNatClampNeg)) = true) q2.2 ?_
      have e : fn10_letter s p0 = (((hm_out (hu_thrown s (0 : Int32))) (p0).toNatClampNeg), (hu_thrown s (0 : Int32))) := by
        rw [fn10_letter]
        rw [if_neg h1, if_neg h2]
      rw [e] <;> rfl
abbrev pr10_letter : List am_V → List am_C → Prop := hm_pr (fun s is => match is with
  | [p0] => wp10_letter s p0
  | _ => False)
def fm10_letter : am_M := hm_fn (fun s is => match is with
  | [p0] => fn10_letter s p0
  | _ => (0, s))
set_option maxRecDepth 100000 in
set_option maxHeartbeats 4000000 in
theorem rn10_letter : ∀ (a : List am_V) (w : List am_C), pr10_letter a w → ∃ n, am_ev (am_mk kb10_letter (fm10_letter a w).2.2.1 (fm10_letter a w).2.2.2 w.length) [] n (0, am_L0 a 2, [], w, 0, 0) = some ((fm10_letter a w).1, (fm10_letter a w).2.1) := by
  rintro a w ⟨s, is, rfl, rfl, hp⟩
  rcases is with _ | ⟨p0, _ | ⟨z, is⟩⟩
  · exact hp.elim
  · exact am_lf_ev (re10_letter s p0 hp)
  · exact hp.elim
theorem rl10_letter : ∀ (a : List am_V) (w : List am_C), pr10_letter a w → a.length ≤ 2 := by
  rintro a w ⟨s, is, rfl, rfl, hp⟩
  rcases is with _ | ⟨p0, _ | ⟨z, is⟩⟩
  · exact hp.elim
  · exact Nat.le_of_ble_eq_true rfl
  · exact hp.elim
set_option maxRecDepth 100000 in
set_option maxHeartbeats 4000000 in
theorem km10_letter {l : Launch} {E : (Nat → Prop) → State → Prop} {D : va_G} {ou : Nat → Nat} {ca : Nat → ClassId} (hE : am_EC E) : hg_Met l E D ou ca hy10_letter prog_12_method_75_code 2 (some .char) 0 pr10_letter fm10_letter := by
  refine am_met (B := kb10_letter) (cuts := []) (nt := 5) (by decide +kernel) rfl rfl (hg_tys_ok ca) ?_ (by decide) rl10_letter ?_ rn10_letter
  · exact fun t ht => List.mem_cons_of_mem _ (hg_arr t ht)
  · intro a w hp ad p e R s m args below meth c hR X hEs hnm
    have hR1 : 0 ≤ R.frames ∧ 0 ≤ R.locals := by rw [hR]; exact ⟨Nat.le_refl _, Nat.le_refl _⟩
    refine ⟨kd10_letter_ok, fun index ci fi mode hq => kf10_ok X.2.2.2.2.1 (index, ci, fi, mode) (am_as_mem hq), fun index ci fs hq => (am_no hq).elim, fun x v hq => (am_no hq).elim, ?_, fun o n f hq => (am_no hq).elim, rfl, rfl, by rw [hR]; exact Nat.le_refl _, by rw [hR]; exact Nat.le_refl _⟩
    intro pc sel n0 pre0 f0 hq
    exact (am_no hq).elim
