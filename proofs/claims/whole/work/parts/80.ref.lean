noncomputable def ki10_thrown : List (Nat × Option (List Nat) × Nat × (List am_V → List am_C → Prop) × am_M) := []
noncomputable def kb10_thrown : am_B := (kd10_thrown, am_as kf10, hn_ty, fun _ => none, fun _ => none, am_as ki10_thrown, fun _ => none, 5, 1, (some .int))
noncomputable def fn10_thrown (s : hs) : Int32 := Classical.choose (⟨_, rfl⟩ : ∃ z : Int32, z = (hm_thrown s))
theorem fq10_thrown (s : hs) : fn10_thrown s = (hm_thrown s) := Classical.choose_spec (⟨_, rfl⟩ : ∃ z : Int32, z = (hm_thrown s))
def wp10_thrown (s : hs) : Prop := True
set_option maxRecDepth 100000 in
set_option maxHeartbeats 4000000 in
theorem re10_thrown (s : hs) (hp : wp10_thrown s) : am_lf (am_mk kb10_thrown 0 0 22) [] (0, am_L0 [.inr (.inl 0)] 1, [], (hm_w s), 0, 0) = some (some (.inl (fn10_thrown s)), (hm_w s)) := by
  unfold wp10_thrown at hp
  refine am_lf_eq ?_
  generalize am_lf (am_mk kb10_thrown 0 0 22) [] = kt
  have e : fn10_thrown s = (hm_thrown s) := by
    rw [fq10_thrown]
  rw [e] <;> rfl
abbrev pr10_thrown : List am_V → List am_C → Prop := fun a w => ∃ (s : hs), a = [.inr (.inl 0)] ∧ w = (hm_w s) ∧ wp10_thrown s
noncomputable def fm10_thrown : am_M := fun a w => (fun (z : Int32) => (some (.inl z), (hm_w (hm_st w 0)), 0, 0)) (fn10_thrown (hm_st w 0))
theorem fe10_thrown (s : hs) : fm10_thrown [.inr (.inl 0)] (hm_w s) = (some (.inl (fn10_thrown s)), (hm_w s), 0, 0) := rfl
set_option maxRecDepth 100000 in
set_option maxHeartbeats 4000000 in
theorem rn10_thrown : ∀ (a : List am_V) (w : List am_C), pr10_thrown a w → ∃ nq, am_ev (am_mk kb10_thrown (fm10_thrown a w).2.2.1 (fm10_thrown a w).2.2.2 w.length) [] nq (0, am_L0 a 1, [], w, 0, 0) = some ((fm10_thrown a w).1, (fm10_thrown a w).2.1) := by
  rintro a w ⟨s, rfl, rfl, hp⟩
  rw [fe10_thrown s]
  exact am_lf_ev (re10_thrown s hp)
theorem rl10_thrown : ∀ (a : List am_V) (w : List am_C), pr10_thrown a w → a.length ≤ 1 := by
  rintro a w ⟨s, rfl, rfl, hp⟩
  exact Nat.le_of_ble_eq_true rfl
theorem pa10_thrown : ∀ a w, pr10_thrown a w → ∃ q a' ci fs r, a = .inr (.inl q) :: a' ∧ w[q]? = some (.inr (ci, fs)) ∧ hn_cl[ci]? = some r ∧ r.1 = hn_R10 := by
  rintro a w ⟨s, rfl, rfl, hp⟩
  exact ⟨0, _, 10, _, _, rfl, rfl, rfl, rfl⟩
set_option maxRecDepth 100000 in
set_option maxHeartbeats 4000000 in
theorem km10_thrown {l : Launch} {E : (Nat → Prop) → State → Prop} {D : va_G} {ou : Nat → Nat} {ca : Nat → ClassId} (hE : am_EC E) : hg_Met l E D ou ca hy10_thrown prog_12_method_2_code 1 (some .int) 0 pr10_thrown fm10_thrown := by
  refine am_met (B := kb10_thrown) (cuts := []) (nt := 5) (by decide +kernel) rfl rfl (hg_tys_ok ca) ?_ (by decide) rl10_thrown ?_ rn10_thrown
  · exact fun t ht => List.mem_cons_of_mem _ (hg_arr t ht)
  · intro a w hp ad p e R s m args below meth c hR X hEs hnm
    have hR1 : 0 ≤ R.frames ∧ 0 ≤ R.locals := by rw [hR]; exact ⟨Nat.le_refl _, Nat.le_refl _⟩
    refine ⟨kd10_thrown_ok, fun index ci fi mode hq => kf10_ok X.2.2.2.2.1 (index, ci, fi, mode) (am_as_mem hq), fun index ci fs hq => (am_no hq).elim, fun x v hq => (am_no hq).elim, ?_, fun o t n f hq => (am_no hq).elim, rfl, rfl, by rw [hR]; exact Nat.le_refl _, by rw [hR]; exact Nat.le_refl _⟩
    intro pc sel n0 pre0 f0 hq
    exact (am_no hq).elim
noncomputable def ki10_type : List (Nat × Option (List Nat) × Nat × (List am_V → List am_C → Prop) × am_M) := []
noncomputable def kb10_type : am_B := (kd10_type, am_as kf10, hn_ty, fun _ => none, fun _ => none, am_as ki10_type, fun _ => none, 5, 2, (some .boolean))
noncomputable def fn10_type (s : hs) (p0 : Int32) : Int32 × hs := Classical.choose (⟨_, rfl⟩ : ∃ z : Int32 × hs, z = (if p0 = (10 : Int32) then (if (hm_typed (hu_thrown s (0 : Int32))) = (40 : Int32) then ((0 : Int32), (hu_thrown s (0 : Int32))) else ((1 : Int32), (hu_typed (ha_row (hu_thrown s (0 : Int32)) (((hm_typed (hu_thrown s (0 : Int32)))).toNatClampNeg) (vp_nar .char p0)) ((hm_typed (ha_row (hu_thrown s (0 : Int32)) (((hm_typed (hu_thrown s (0 : Int32)))).toNatClampNeg) (vp_nar .char p0))) + (1 : Int32))))) else (if p0 < (32 : Int32) then ((0 : Int32), (hu_thrown s (0 : Int32))) else (if (126 : Int32) < p0 then ((0 : Int32), (hu_thrown s (0 : Int32))) else (if (hm_typed (hu_thrown s (0 : Int32))) = (40 : Int32) then ((0 : Int32), (hu_thrown s (0 : Int32))) else ((1 : Int32), (hu_typed (ha_row (hu_thrown s (0 : Int32)) (((hm_typed (hu_thrown s (0 : Int32)))).toNatClampNeg) (vp_nar .char p0)) ((hm_typed (ha_row (hu_thrown s (0 : Int32)) (((hm_typed (hu_thrown s (0 : Int32)))).toNatClampNeg) (vp_nar .char p0))) + (1 : Int32)))))))))
theorem fq10_type (s : hs) (p0 : Int32) : fn10_type s p0 = (if p0 = (10 : Int32) then (if (hm_typed (hu_thrown s (0 : Int32))) = (40 : Int32) then ((0 : Int32), (hu_thrown s (0 : Int32))) else ((1 : Int32), (hu_typed (ha_row (hu_thrown s (0 : Int32)) (((hm_typed (hu_thrown s (0 : Int32)))).toNatClampNeg) (vp_nar .char p0)) ((hm_typed (ha_row (hu_thrown s (0 : Int32)) (((hm_typed (hu_thrown s (0 : Int32)))).toNatClampNeg) (vp_nar .char p0))) + (1 : Int32))))) else (if p0 < (32 : Int32) then ((0 : Int32), (hu_thrown s (0 : Int32))) else (if (126 : Int32) < p0 then ((0 : Int32), (hu_thrown s (0 : Int32))) else (if (hm_typed (hu_thrown s (0 : Int32))) = (40 : Int32) then ((0 : Int32), (hu_thrown s (0 : Int32))) else ((1 : Int32), (hu_typed (ha_row (hu_thrown s (0 : Int32)) (((hm_typed (hu_thrown s (0 : Int32)))).toNatClampNeg) (vp_nar .char p0)) ((hm_typed (ha_row (hu_thrown s (0 : Int32)) (((hm_typed (hu_thrown s (0 : Int32)))).toNatClampNeg) (vp_nar .char p0))) + (1 : Int32)))))))) := Classical.choose_spec (⟨_, rfl⟩ : ∃ z : Int32 × hs, z = (if p0 = (10 : Int32) then (if (hm_typed (hu_thrown s (0 : Int32))) = (40 : Int32) then ((0 : Int32), (hu_thrown s (0 : Int32))) else ((1 : Int32), (hu_typed (ha_row (hu_thrown s (0 : Int32)) (((hm_typed (hu_thrown s (0 : Int32)))).toNatClampNeg) (vp_nar .char p0)) ((hm_typed (ha_row (hu_thrown s (0 : Int32)) (((hm_typed (hu_thrown s (0 : Int32)))).toNatClampNeg) (vp_nar .char p0))) + (1 : Int32))))) else (if p0 < (32 : Int32) then ((0 : Int32), (hu_thrown s (0 : Int32))) else (if (126 : Int32) < p0 then ((0 : Int32), (hu_thrown s (0 : Int32))) else (if (hm_typed (hu_thrown s (0 : Int32))) = (40 : Int32) then ((0 : Int32), (hu_thrown s (0 : Int32))) else ((1 : Int32), (hu_typed (ha_row (hu_thrown s (0 : Int32)) (((hm_typed (hu_thrown s (0 : Int32)))).toNatClampNeg) (vp_nar .char p0)) ((hm_typed (ha_row (hu_thrown s (0 : Int32)) (((hm_typed (hu_thrown s (0 : Int32)))).toNatClampNeg) (vp_nar .char p0))) + (1 : Int32)))))))))
def wp10_type (s : hs) (p0 : Int32) : Prop := ((p0 = (10 : Int32) → (((hm_typed (hu_thrown s (0 : Int32))) = (40 : Int32) → True) ∧ (¬ (hm_typed (hu_thrown s (0 : Int32))) = (40 : Int32) → (am_inb (hm_typed (hu_thrown s (0 : Int32))) 40 = true)))) ∧ (¬ p0 = (10 : Int32) → ((p0 < (32 : Int32) → True) ∧ (¬ p0 < (32 : Int32) → (((126 : Int32) < p0 → True) ∧ (¬ (126 : Int32) < p0 → (((hm_typed (hu_thrown s (0 : Int32))) = (40 : Int32) → True) ∧ (¬ (hm_typed (hu_thrown s (0 : Int32))) = (40 : Int32) → (am_inb (hm_typed (hu_thrown s (0 : Int32))) 40 = true)))))))))
set_option maxRecDepth 100000 in
set_option maxHeartbeats 4000000 in
theorem re10_type (s : hs) (p0 : Int32) (hp : wp10_type s p0) : am_lf (am_mk kb10_type 0 0 22) [] (0, am_L0 [.inr (.inl 0), .inl p0] 2, [], (hm_w s), 0, 0) = some (some (.inl ((fn10_type s p0).1)), (hm_w ((fn10_type s p0).2))) := by
  unfold wp10_type at hp
  refine am_lf_eq ?_
  generalize am_lf (am_mk kb10_type 0 0 22) [] = kt
  refine am_sp (w' := (hm_w (hu_thrown s (0 : Int32)))) (kp_R_0_thrown s (0 : Int32)) ?_
  refine am_if (c := p0 = (10 : Int32)) (fun h1 => ?_) (fun h1 => ?_)
  · have q1 := hp.1 h1
    refine am_if (c := (hm_typed (hu_thrown s (0 : Int32))) = (40 : Int32)) (fun h2 => ?_) (fun h2 => ?_)
    · have e : fn10_type s p0 = ((0 : Int32), (hu_thrown s (0 : Int32))) := by
        rw [fq10_type]
        rw [if_pos h1, if_pos h2]
      rw [e] <;> rfl
    · have q2 := q1.2 h2
      refine am_ci (c := am_inb (hm_typed (hu_thrown s (0 : Int32))) 40 = true) q2 ?_
      refine am_sp (w' := (hm_w (ha_row (hu_thrown s (0 : Int32)) (((hm_typed (hu_thrown s (0 : Int32)))).toNatClampNeg) (vp_nar .char p0)))) (kp_R_0_row (hu_thrown s (0 : Int32)) (((hm_typed (hu_thrown s (0 : Int32)))).toNatClampNeg) (vp_nar .char p0)) ?_
      refine am_sp (w' := (hm_w (hu_typed (ha_row (hu_thrown s (0 : Int32)) (((hm_typed (hu_thrown s (0 : Int32)))).toNatClampNeg) (vp_nar .char p0)) ((hm_typed (ha_row (hu_thrown s (0 : Int32)) (((hm_typed (hu_thrown s (0 : Int32)))).toNatClampNeg) (vp_nar .char p0))) + (1 : Int32))))) (kp_R_0_typed (ha_row (hu_thrown s (0 : Int32)) (((hm_typed (hu_thrown s (0 : Int32)))).toNatClampNeg) (vp_nar .char p0)) ((hm_typed (ha_row (hu_thrown s (0 : Int32)) (((hm_typed (hu_thrown s (0 : Int32)))).toNatClampNeg) (vp_nar .char p0))) + (1 : Int32))) ?_
      have e : fn10_type s p0 = ((1 : Int32), (hu_typed (ha_row (hu_thrown s (0 : Int32)) (((hm_typed (hu_thrown s (0 : Int32)))).toNatClampNeg) (vp_nar .char p0)) ((hm_typed (ha_row (hu_thrown s (0 : Int32)) (((hm_typed (hu_thrown s (0 : Int32)))).toNatClampNeg) (vp_nar .char p0))) + (1 : Int32)))) := by
        rw [fq10_type]
        rw [if_pos h1, if_neg h2]
      rw [e] <;> rfl
  · have q1 := hp.2 h1
    refine am_if (c := p0 < (32 : Int32)) (fun h2 => ?_) (fun h2 => ?_)
    · have e : fn10_type s p0 = ((0 : Int32), (hu_thrown s (0 : Int32))) := by
        rw [fq10_type]
        rw [if_neg h1, if_pos h2]
      rw [e] <;> rfl
    · have q2 := q1.2 h2
      refine am_if (c := (126 : Int32) < p0) (fun h3 => ?_) (fun h3 => ?_)
      · have e : fn10_type s p0 = ((0 : Int32), (hu_thrown s (0 : Int32))) := by
          rw [fq10_type]
          rw [if_neg h1, if_neg h2, if_pos h3]
        rw [e] <;> rfl
      · have q3 := q2.2 h3
        refine am_if (c := (hm_typed (hu_thrown s (0 : Int32))) = (40 : Int32)) (fun h4 => ?_) (fun h4 => ?_)
        · have e : fn10_type s p0 = ((0 : Int32), (hu_thrown s (0 : Int32))) := by
            rw [fq10_type]
            rw [if_neg h1, if_neg h2, if_neg h3, if_pos h4]
          rw [e] <;> rfl
        · have q4 := q3.2 h4
          refine am_ci (c := am_inb (hm_typed (hu_thrown s (0 : Int32))) 40 = true) q4 ?_
          refine am_sp (w' := (hm_w (ha_row (hu_thrown s (0 : Int32)) (((hm_typed (hu_thrown s (0 : Int32)))).toNatClampNeg) (vp_nar .char p0)))) (kp_R_0_row (hu_thrown s (0 : Int32)) (((hm_typed (hu_thrown s (0 : Int32)))).toNatClampNeg) (vp_nar .char p0)) ?_
          refine am_sp (w' := (hm_w (hu_typed (ha_row (hu_thrown s (0 : Int32)) (((hm_typed (hu_thrown s (0 : Int32)))).toNatClampNeg) (vp_nar .char p0)) ((hm_typed (ha_row (hu_thrown s (0 : Int32)) (((hm_typed (hu_thrown s (0 : Int32)))).toNatClampNeg) (vp_nar .char p0))) + (1 : Int32))))) (kp_R_0_typed (ha_row (hu_thrown s (0 : Int32)) (((hm_typed (hu_thrown s (0 : Int32)))).toNatClampNeg) (vp_nar .char p0)) ((hm_typed (ha_row (hu_thrown s (0 : Int32)) (((hm_typed (hu_thrown s (0 : Int32)))).toNatClampNeg) (vp_nar .char p0))) + (1 : Int32))) ?_
          have e : fn10_type s p0 = ((1 : Int32), (hu_typed (ha_row (hu_thrown s (0 : Int32)) (((hm_typed (hu_thrown s (0 : Int32)))).toNatClampNeg) (vp_nar .char p0)) ((hm_typed (ha_row (hu_thrown s (0 : Int32)) (((hm_typed (hu_thrown s (0 : Int32)))).toNatClampNeg) (vp_nar .char p0))) + (1 : Int32)))) := by
            rw [fq10_type]
            rw [if_neg h1, if_neg h2, if_neg h3, if_neg h4]
          rw [e] <;> rfl
abbrev pr10_type : List am_V → List am_C → Prop := fun a w => ∃ (s : hs) (p0 : Int32), a = [.inr (.inl 0), .inl p0] ∧ w = (hm_w s) ∧ wp10_type s p0
noncomputable def fm10_type : am_M := fun a w => (fun (z : Int32 × hs) => (some (.inl (z.1)), (hm_w (z.2)), 0, 0)) (fn10_type (hm_st w 0) (am_i (am_an a 1)))
theorem fe10_type (s : hs) (p0 : Int32) : fm10_type [.inr (.inl 0), .inl p0] (hm_w s) = (some (.inl ((fn10_type s p0).1)), (hm_w ((fn10_type s p0).2)), 0, 0) := rfl
set_option maxRecDepth 100000 in
set_option maxHeartbeats 4000000 in
theorem rn10_type : ∀ (a : List am_V) (w : List am_C), pr10_type a w → ∃ nq, am_ev (am_mk kb10_type (fm10_type a w).2.2.1 (fm10_type a w).2.2.2 w.length) [] nq (0, am_L0 a 2, [], w, 0, 0) = some ((fm10_type a w).1, (fm10_type a w).2.1) := by
  rintro a w ⟨s, p0, rfl, rfl, hp⟩
  rw [fe10_type s p0]
  exact am_lf_ev (re10_type s p0 hp)
theorem rl10_type : ∀ (a : List am_V) (w : List am_C), pr10_type a w → a.length ≤ 2 := by
  rintro a w ⟨s, p0, rfl, rfl, hp⟩
  exact Nat.le_of_ble_eq_true rfl
theorem pa10_type : ∀ a w, pr10_type a w → ∃ q a' ci fs r, a = .inr (.inl q) :: a' ∧ w[q]? = some (.inr (ci, fs)) ∧ hn_cl[ci]? = some r ∧ r.1 = hn_R10 := by
  rintro a w ⟨s, p0, rfl, rfl, hp⟩
  exact ⟨0, _, 10, _, _, rfl, rfl, rfl, rfl⟩
set_option maxRecDepth 100000 in
set_option maxHeartbeats 4000000 in
theorem km10_type {l : Launch} {E : (Nat → Prop) → State → Prop} {D : va_G} {ou : Nat → Nat} {ca : Nat → ClassId} (hE : am_EC E) : hg_Met l E D ou ca hy10_type prog_12_method_3_code 2 (some .boolean) 0 pr10_type fm10_type := by
  refine am_met (B := kb10_type) (cuts := []) (nt := 5) (by decide +kernel) rfl rfl (hg_tys_ok ca) ?_ (by decide) rl10_type ?_ rn10_type
  · exact fun t ht => List.mem_cons_of_mem _ (hg_arr t ht)
  · intro a w hp ad p e R s m args below meth c hR X hEs hnm
    have hR1 : 0 ≤ R.frames ∧ 0 ≤ R.locals := by rw [hR]; exact ⟨Nat.le_refl _, Nat.le_refl _⟩
    refine ⟨kd10_type_ok, fun index ci fi mode hq => kf10_ok X.2.2.2.2.1 (index, ci, fi, mode) (am_as_mem hq), fun index ci fs hq => (am_no hq).elim, fun x v hq => (am_no hq).elim, ?_, fun o t n f hq => (am_no hq).elim, rfl, rfl, by rw [hR]; exact Nat.le_refl _, by rw [hR]; exact Nat.le_refl _⟩
    intro pc sel n0 pre0 f0 hq
    exact (am_no hq).elim
noncomputable def ki10_wipe : List (Nat × Option (List Nat) × Nat × (List am_V → List am_C → Prop) × am_M) := []
noncomputable def kb10_wipe : am_B := (kd10_wipe, am_as kf10, hn_ty, fun _ => none, fun _ => none, am_as ki10_wipe, fun _ => none, 5, 2, (some .int))
noncomputable def fn10_wipe (s : hs) : Int32 × hs := Classical.choose (⟨_, rfl⟩ : ∃ z : Int32 × hs, z = ((hm_typed (hu_thrown s (0 : Int32))), (hu_typed (hu_thrown s (0 : Int32)) (0 : Int32))))
theorem fq10_wipe (s : hs) : fn10_wipe s = ((hm_typed (hu_thrown s (0 : Int32))), (hu_typed (hu_thrown s (0 : Int32)) (0 : Int32))) := Classical.choose_spec (⟨_, rfl⟩ : ∃ z : Int32 × hs, z = ((hm_typed (hu_thrown s (0 : Int32))), (hu_typed (hu_thrown s (0 : Int32)) (0 : Int32))))
def wp10_wipe (s : hs) : Prop := True
set_option maxRecDepth 100000 in
set_option maxHeartbeats 4000000 in
theorem re10_wipe (s : hs) (hp : wp10_wipe s) : am_lf (am_mk kb10_wipe 0 0 22) [] (0, am_L0 [.inr (.inl 0)] 2, [], (hm_w s), 0, 0) = some (some (.inl ((fn10_wipe s).1)), (hm_w ((fn10_wipe s).2))) := by
  unfold wp10_wipe at hp
  refine am_lf_eq ?_
  generalize am_lf (am_mk kb10_wipe 0 0 22) [] = kt
  refine am_sp (w' := (hm_w (hu_thrown s (0 : Int32)))) (kp_R_0_thrown s (0 : Int32)) ?_
  refine am_sp (w' := (hm_w (hu_typed (hu_thrown s (0 : Int32)) (0 : Int32)))) (kp_R_0_typed (hu_thrown s (0 : Int32)) (0 : Int32)) ?_
  have e : fn10_wipe s = ((hm_typed (hu_thrown s (0 : Int32))), (hu_typed (hu_thrown s (0 : Int32)) (0 : Int32))) := by
    rw [fq10_wipe]
  rw [e] <;> rfl
abbrev pr10_wipe : List am_V → List am_C → Prop := fun a w => ∃ (s : hs), a = [.inr (.inl 0)] ∧ w = (hm_w s) ∧ wp10_wipe s
noncomputable def fm10_wipe : am_M := fun a w => (fun (z : Int32 × hs) => (some (.inl (z.1)), (hm_w (z.2)), 0, 0)) (fn10_wipe (hm_st w 0))
theorem fe10_wipe (s : hs) : fm10_wipe [.inr (.inl 0)] (hm_w s) = (some (.inl ((fn10_wipe s).1)), (hm_w ((fn10_wipe s).2)), 0, 0) := rfl
set_option maxRecDepth 100000 in
set_option maxHeartbeats 4000000 in
theorem rn10_wipe : ∀ (a : List am_V) (w : List am_C), pr10_wipe a w → ∃ nq, am_ev (am_mk kb10_wipe (fm10_wipe a w).2.2.1 (fm10_wipe a w).2.2.2 w.length) [] nq (0, am_L0 a 2, [], w, 0, 0) = some ((fm10_wipe a w).1, (fm10_wipe a w).2.1) := by
  rintro a w ⟨s, rfl, rfl, hp⟩
  rw [fe10_wipe s]
  exact am_lf_ev (re10_wipe s hp)
theorem rl10_wipe : ∀ (a : List am_V) (w : List am_C), pr10_wipe a w → a.length ≤ 2 := by
  rintro a w ⟨s, rfl, rfl, hp⟩
  exact Nat.le_of_ble_eq_true rfl
theorem pa10_wipe : ∀ a w, pr10_wipe a w → ∃ q a' ci fs r, a = .inr (.inl q) :: a' ∧ w[q]? = some (.inr (ci, fs)) ∧ hn_cl[ci]? = some r ∧ r.1 = hn_R10 := by
  rintro a w ⟨s, rfl, rfl, hp⟩
  exact ⟨0, _, 10, _, _, rfl, rfl, rfl, rfl⟩
set_option maxRecDepth 100000 in
set_option maxHeartbeats 4000000 in
theorem km10_wipe {l : Launch} {E : (Nat → Prop) → State → Prop} {D : va_G} {ou : Nat → Nat} {ca : Nat → ClassId} (hE : am_EC E) : hg_Met l E D ou ca hy10_wipe prog_12_method_4_code 2 (some .int) 0 pr10_wipe fm10_wipe := by
  refine am_met (B := kb10_wipe) (cuts := []) (nt := 5) (by decide +kernel) rfl rfl (hg_tys_ok ca) ?_ (by decide) rl10_wipe ?_ rn10_wipe
  · exact fun t ht => List.mem_cons_of_mem _ (hg_arr t ht)
  · intro a w hp ad p e R s m args below meth c hR X hEs hnm
    have hR1 : 0 ≤ R.frames ∧ 0 ≤ R.locals := by rw [hR]; exact ⟨Nat.le_refl _, Nat.le_refl _⟩
    refine ⟨kd10_wipe_ok, fun index ci fi mode hq => kf10_ok X.2.2.2.2.1 (index, ci, fi, mode) (am_as_mem hq), fun index ci fs hq => (am_no hq).elim, fun x v hq => (am_no hq).elim, ?_, fun o t n f hq => (am_no hq).elim, rfl, rfl, by rw [hR]; exact Nat.le_refl _, by rw [hR]; exact Nat.le_refl _⟩
    intro pc sel n0 pre0 f0 hq
    exact (am_no hq).elim
noncomputable def ki10_add : List (Nat × Option (List Nat) × Nat × (List am_V → List am_C → Prop) × am_M) := []
noncomputable def kb10_add : am_B := (kd10_add, am_as kf10, hn_ty, fun _ => none, fun _ => none, am_as ki10_add, fun _ => none, 5, 2, (some .int))
noncomputable def fn10_add_c84 (s : hs) : Int32 × hs := ((hm_length (hu_compiled s (0 : Int32))), (hu_compiled s (0 : Int32)))
def wp10_add_c84 (s : hs) : Prop := True
set_option maxRecDepth 100000 in
set_option maxHeartbeats 4000000 in
theorem rc10_add_84 (s : hs) (j1 : Option am_V) (g1 : am_loO 22 j1 = true) (hp : wp10_add_c84 s) : am_lf (am_mk kb10_add 0 0 22) [24, 35, 79, 84] (84, [some (.inr (.inl 0)), j1], [], (hm_w s), 0, 0) = some (some (.inl ((fn10_add_c84 s).1)), (hm_w ((fn10_add_c84 s).2))) := by
  unfold wp10_add_c84 at hp
  refine am_lf_eq ?_
  generalize am_lf (am_mk kb10_add 0 0 22) [24, 35, 79, 84] = kt
  refine am_sp (w' := (hm_w (hu_compiled s (0 : Int32)))) (kp_R_0_compiled s (0 : Int32)) ?_
  have e : fn10_add_c84 s = ((hm_length (hu_compiled s (0 : Int32))), (hu_compiled s (0 : Int32))) := by
    rw [fn10_add_c84]
  rw [e] <;> rfl
noncomputable def fn10_add_c79 (s : hs) : Int32 × hs := (fn10_add_c84 (hu_typed s (0 : Int32)))
def wp10_add_c79 (s : hs) : Prop := (wp10_add_c84 (hu_typed s (0 : Int32)))
set_option maxRecDepth 100000 in
set_option maxHeartbeats 4000000 in
theorem rc10_add_79 (s : hs) (j1 : Option am_V) (g1 : am_loO 22 j1 = true) (hp : wp10_add_c79 s) : am_lf (am_mk kb10_add 0 0 22) [24, 35, 79, 84] (79, [some (.inr (.inl 0)), j1], [], (hm_w s), 0, 0) = some (some (.inl ((fn10_add_c79 s).1)), (hm_w ((fn10_add_c79 s).2))) := by
  unfold wp10_add_c79 at hp
  have i84 := @rc10_add_84
  refine am_lf_eq ?_
  generalize am_lf (am_mk kb10_add 0 0 22) [24, 35, 79, 84] = kt at i84 ⊢
  refine am_sp (w' := (hm_w (hu_typed s (0 : Int32)))) (kp_R_0_typed s (0 : Int32)) ?_
  have e : fn10_add_c79 s = fn10_add_c84 (hu_typed s (0 : Int32)) := by
    rw [fn10_add_c79]
  rw [e]
  exact i84 (hu_typed s (0 : Int32)) _ g1 hp
noncomputable def fn10_add_c35 : Nat → hs → Int32 → Int32 × hs
  | 0, s, _ => (0, s)
  | fu + 1, s, v1 => (if (hm_typed s) ≤ v1 then (fn10_add_c79 (hu_length s ((hm_length s) + (hm_typed s)))) else (fn10_add_c35 fu (ha_template s ((((hm_length s) + v1)).toNatClampNeg) (vp_nar .char ((hm_row s) (v1).toNatClampNeg))) (v1 + (1 : Int32))))
def wp10_add_c35 : Nat → hs → Int32 → Prop
  | 0, _, _ => False
  | fu + 1, s, v1 => (((hm_typed s) ≤ v1 → (wp10_add_c79 (hu_length s ((hm_length s) + (hm_typed s))))) ∧ (¬ (hm_typed s) ≤ v1 → (am_inb v1 40 = true ∧ (am_inb ((hm_length s) + v1) 240 = true ∧ (wp10_add_c35 fu (ha_template s ((((hm_length s) + v1)).toNatClampNeg) (vp_nar .char ((hm_row s) (v1).toNatClampNeg))) (v1 + (1 : Int32)))))))
set_option maxRecDepth 100000 in
set_option maxHeartbeats 4000000 in
theorem rc10_add_35 : ∀ (fu : Nat) (s : hs) (v1 : Int32) , wp10_add_c35 fu s v1 → am_lf (am_mk kb10_add 0 0 22) [24, 35, 79, 84] (35, [some (.inr (.inl 0)), some (.inl v1)], [], (hm_w s), 0, 0) = some (some (.inl ((fn10_add_c35 fu s v1).1)), (hm_w ((fn10_add_c35 fu s v1).2))) := by
  intro fu
  induction fu with
  | zero =>
    intro s v1 hp
    exact hp.elim
  | succ fu ih =>
    intro s v1 hp
    unfold wp10_add_c35 at hp
    have i79 := @rc10_add_79
    refine am_lf_eq ?_
    generalize am_lf (am_mk kb10_add 0 0 22) [24, 35, 79, 84] = kt at i79 ih ⊢
    refine am_if (c := (hm_typed s) ≤ v1) (fun h2 => ?_) (fun h2 => ?_)
    · have q2 := hp.1 h2
      refine am_sp (w' := (hm_w (hu_length s ((hm_length s) + (hm_typed s))))) (kp_R_0_length s ((hm_length s) + (hm_typed s))) ?_
      have e : fn10_add_c35 (fu + 1) s v1 = fn10_add_c79 (hu_length s ((hm_length s) + (hm_typed s))) := by
        rw [fn10_add_c35]
        rw [if_pos h2]
      rw [e]
      exact i79 (hu_length s ((hm_length s) + (hm_typed s))) _ rfl q2
    · have q2 := hp.2 h2
      refine am_ci (c := am_inb v1 40 = true) q2.1 ?_
      refine am_ci (c := am_inb ((hm_length s) + v1) 240 = true) q2.2.1 ?_
      refine am_sp (w' := (hm_w (ha_template s ((((hm_length s) + v1)).toNatClampNeg) (vp_nar .char ((hm_row s) (v1).toNatClampNeg))))) (kp_R_0_template s ((((hm_length s) + v1)).toNatClampNeg) (vp_nar .char ((hm_row s) (v1).toNatClampNeg))) ?_
      have e : fn10_add_c35 (fu + 1) s v1 = fn10_add_c35 fu (ha_template s ((((hm_length s) + v1)).toNatClampNeg) (vp_nar .char ((hm_row s) (v1).toNatClampNeg))) (v1 + (1 : Int32)) := by
        rw [fn10_add_c35]
        rw [if_neg h2]
      rw [e]
      exact ih (ha_template s ((((hm_length s) + v1)).toNatClampNeg) (vp_nar .char ((hm_row s) (v1).toNatClampNeg))) (v1 + (1 : Int32))  q2.2.2
noncomputable def fn10_add_c24 (s : hs) : Int32 × hs := (if (hm_thrown s) ≤ 0 then (fn10_add_c35 hg_fu s (0 : Int32)) else ((0 : Int32), s))
def wp10_add_c24 (s : hs) : Prop := (((hm_thrown s) ≤ 0 → (wp10_add_c35 hg_fu s (0 : Int32))) ∧ (¬ (hm_thrown s) ≤ 0 → True))
set_option maxRecDepth 100000 in
set_option maxHeartbeats 4000000 in
theorem rc10_add_24 (s : hs) (j1 : Option am_V) (g1 : am_loO 22 j1 = true) (hp : wp10_add_c24 s) : am_lf (am_mk kb10_add 0 0 22) [24, 35, 79, 84] (24, [some (.inr (.inl 0)), j1], [], (hm_w s), 0, 0) = some (some (.inl ((fn10_add_c24 s).1)), (hm_w ((fn10_add_c24 s).2))) := by
  unfold wp10_add_c24 at hp
  have i35 := @rc10_add_35
  refine am_lf_eq ?_
  generalize am_lf (am_mk kb10_add 0 0 22) [24, 35, 79, 84] = kt at i35 ⊢
  refine am_if (c := (hm_thrown s) ≤ 0) (fun h1 => ?_) (fun h1 => ?_)
  · have q1 := hp.1 h1
    have e : fn10_add_c24 s = fn10_add_c35 hg_fu s (0 : Int32) := by
      rw [fn10_add_c24]
      rw [if_pos h1]
    rw [e]
    exact i35 hg_fu s (0 : Int32)  q1
  · have e : fn10_add_c24 s = ((0 : Int32), s) := by
      rw [fn10_add_c24]
      rw [if_neg h1]
    rw [e] <;> rfl
noncomputable def fn10_add (s : hs) : Int32 × hs := Classical.choose (⟨_, rfl⟩ : ∃ z : Int32 × hs, z = (if ((hm_length s) + (hm_typed s)) ≤ (240 : Int32) then (fn10_add_c24 (hu_thrown s (0 : Int32))) else (fn10_add_c24 (hu_thrown s (1 : Int32)))))
theorem fq10_add (s : hs) : fn10_add s = (if ((hm_length s) + (hm_typed s)) ≤ (240 : Int32) then (fn10_add_c24 (hu_thrown s (0 : Int32))) else (fn10_add_c24 (hu_thrown s (1 : Int32)))) := Classical.choose_spec (⟨_, rfl⟩ : ∃ z : Int32 × hs, z = (if ((hm_length s) + (hm_typed s)) ≤ (240 : Int32) then (fn10_add_c24 (hu_thrown s (0 : Int32))) else (fn10_add_c24 (hu_thrown s (1 : Int32)))))
def wp10_add (s : hs) : Prop := ((((hm_length s) + (hm_typed s)) ≤ (240 : Int32) → (wp10_add_c24 (hu_thrown s (0 : Int32)))) ∧ (¬ ((hm_length s) + (hm_typed s)) ≤ (240 : Int32) → (wp10_add_c24 (hu_thrown s (1 : Int32)))))
set_option maxRecDepth 100000 in
set_option maxHeartbeats 4000000 in
theorem re10_add (s : hs) (hp : wp10_add s) : am_lf (am_mk kb10_add 0 0 22) [24, 35, 79, 84] (0, am_L0 [.inr (.inl 0)] 2, [], (hm_w s), 0, 0) = some (some (.inl ((fn10_add s).1)), (hm_w ((fn10_add s).2))) := by
  unfold wp10_add at hp
  have i24 := @rc10_add_24
  refine am_lf_eq ?_
  generalize am_lf (am_mk kb10_add 0 0 22) [24, 35, 79, 84] = kt at i24 ⊢
  refine am_if (c := ((hm_length s) + (hm_typed s)) ≤ (240 : Int32)) (fun h1 => ?_) (fun h1 => ?_)
  · have q1 := hp.1 h1
    refine am_sp (w' := (hm_w (hu_thrown s (0 : Int32)))) (kp_R_0_thrown s (0 : Int32)) ?_
    have e : fn10_add s = fn10_add_c24 (hu_thrown s (0 : Int32)) := by
      rw [fq10_add]
      rw [if_pos h1]
    rw [e]
    exact i24 (hu_thrown s (0 : Int32)) _ rfl q1
  · have q1 := hp.2 h1
    refine am_sp (w' := (hm_w (hu_thrown s (1 : Int32)))) (kp_R_0_thrown s (1 : Int32)) ?_
    have e : fn10_add s = fn10_add_c24 (hu_thrown s (1 : Int32)) := by
      rw [fq10_add]
      rw [if_neg h1]
    rw [e]
    exact i24 (hu_thrown s (1 : Int32)) _ rfl q1
abbrev pr10_add : List am_V → List am_C → Prop := fun a w => ∃ (s : hs), a = [.inr (.inl 0)] ∧ w = (hm_w s) ∧ wp10_add s
noncomputable def fm10_add : am_M := fun a w => (fun (z : Int32 × hs) => (some (.inl (z.1)), (hm_w (z.2)), 0, 0)) (fn10_add (hm_st w 0))
theorem fe10_add (s : hs) : fm10_add [.inr (.inl 0)] (hm_w s) = (some (.inl ((fn10_add s).1)), (hm_w ((fn10_add s).2)), 0, 0) := rfl
set_option maxRecDepth 100000 in
set_option maxHeartbeats 4000000 in
theorem rn10_add : ∀ (a : List am_V) (w : List am_C), pr10_add a w → ∃ nq, am_ev (am_mk kb10_add (fm10_add a w).2.2.1 (fm10_add a w).2.2.2 w.length) [24, 35, 79, 84] nq (0, am_L0 a 2, [], w, 0, 0) = some ((fm10_add a w).1, (fm10_add a w).2.1) := by
  rintro a w ⟨s, rfl, rfl, hp⟩
  rw [fe10_add s]
  exact am_lf_ev (re10_add s hp)
theorem rl10_add : ∀ (a : List am_V) (w : List am_C), pr10_add a w → a.length ≤ 2 := by
  rintro a w ⟨s, rfl, rfl, hp⟩
  exact Nat.le_of_ble_eq_true rfl
theorem pa10_add : ∀ a w, pr10_add a w → ∃ q a' ci fs r, a = .inr (.inl q) :: a' ∧ w[q]? = some (.inr (ci, fs)) ∧ hn_cl[ci]? = some r ∧ r.1 = hn_R10 := by
  rintro a w ⟨s, rfl, rfl, hp⟩
  exact ⟨0, _, 10, _, _, rfl, rfl, rfl, rfl⟩
set_option maxRecDepth 100000 in
set_option maxHeartbeats 4000000 in
theorem km10_add {l : Launch} {E : (Nat → Prop) → State → Prop} {D : va_G} {ou : Nat → Nat} {ca : Nat → ClassId} (hE : am_EC E) : hg_Met l E D ou ca hy10_add prog_12_method_5_code 2 (some .int) 0 pr10_add fm10_add := by
  refine am_met (B := kb10_add) (cuts := [24, 35, 79, 84]) (nt := 5) (by decide +kernel) rfl rfl (hg_tys_ok ca) ?_ (by decide) rl10_add ?_ rn10_add
  · exact fun t ht => List.mem_cons_of_mem _ (hg_arr t ht)
  · intro a w hp ad p e R s m args below meth c hR X hEs hnm
    have hR1 : 0 ≤ R.frames ∧ 0 ≤ R.locals := by rw [hR]; exact ⟨Nat.le_refl _, Nat.le_refl _⟩
    refine ⟨kd10_add_ok, fun index ci fi mode hq => kf10_ok X.2.2.2.2.1 (index, ci, fi, mode) (am_as_mem hq), fun index ci fs hq => (am_no hq).elim, fun x v hq => (am_no hq).elim, ?_, fun o t n f hq => (am_no hq).elim, rfl, rfl, by rw [hR]; exact Nat.le_refl _, by rw [hR]; exact Nat.le_refl _⟩
    intro pc sel n0 pre0 f0 hq
    exact (am_no hq).elim
noncomputable def ki10_clear : List (Nat × Option (List Nat) × Nat × (List am_V → List am_C → Prop) × am_M) := []
noncomputable def kb10_clear : am_B := (kd10_clear, am_as kf10, hn_ty, fun _ => none, fun _ => none, am_as ki10_clear, fun _ => none, 5, 2, (some .int))
noncomputable def fn10_clear (s : hs) : Int32 × hs := Classical.choose (⟨_, rfl⟩ : ∃ z : Int32 × hs, z = ((hm_length (hu_thrown s (0 : Int32))), (hu_compiled (hu_length (hu_thrown s (0 : Int32)) (0 : Int32)) (0 : Int32))))
theorem fq10_clear (s : hs) : fn10_clear s = ((hm_length (hu_thrown s (0 : Int32))), (hu_compiled (hu_length (hu_thrown s (0 : Int32)) (0 : Int32)) (0 : Int32))) := Classical.choose_spec (⟨_, rfl⟩ : ∃ z : Int32 × hs, z = ((hm_length (hu_thrown s (0 : Int32))), (hu_compiled (hu_length (hu_thrown s (0 : Int32)) (0 : Int32)) (0 : Int32))))
def wp10_clear (s : hs) : Prop := True
set_option maxRecDepth 100000 in
set_option maxHeartbeats 4000000 in
theorem re10_clear (s : hs) (hp : wp10_clear s) : am_lf (am_mk kb10_clear 0 0 22) [] (0, am_L0 [.inr (.inl 0)] 2, [], (hm_w s), 0, 0) = some (some (.inl ((fn10_clear s).1)), (hm_w ((fn10_clear s).2))) := by
  unfold wp10_clear at hp
  refine am_lf_eq ?_
  generalize am_lf (am_mk kb10_clear 0 0 22) [] = kt
  refine am_sp (w' := (hm_w (hu_thrown s (0 : Int32)))) (kp_R_0_thrown s (0 : Int32)) ?_
  refine am_sp (w' := (hm_w (hu_length (hu_thrown s (0 : Int32)) (0 : Int32)))) (kp_R_0_length (hu_thrown s (0 : Int32)) (0 : Int32)) ?_
  refine am_sp (w' := (hm_w (hu_compiled (hu_length (hu_thrown s (0 : Int32)) (0 : Int32)) (0 : Int32)))) (kp_R_0_compiled (hu_length (hu_thrown s (0 : Int32)) (0 : Int32)) (0 : Int32)) ?_
  have e : fn10_clear s = ((hm_length (hu_thrown s (0 : Int32))), (hu_compiled (hu_length (hu_thrown s (0 : Int32)) (0 : Int32)) (0 : Int32))) := by
    rw [fq10_clear]
  rw [e] <;> rfl
abbrev pr10_clear : List am_V → List am_C → Prop := fun a w => ∃ (s : hs), a = [.inr (.inl 0)] ∧ w = (hm_w s) ∧ wp10_clear s
noncomputable def fm10_clear : am_M := fun a w => (fun (z : Int32 × hs) => (some (.inl (z.1)), (hm_w (z.2)), 0, 0)) (fn10_clear (hm_st w 0))
theorem fe10_clear (s : hs) : fm10_clear [.inr (.inl 0)] (hm_w s) = (some (.inl ((fn10_clear s).1)), (hm_w ((fn10_clear s).2)), 0, 0) := rfl
set_option maxRecDepth 100000 in
set_option maxHeartbeats 4000000 in
theorem rn10_clear : ∀ (a : List am_V) (w : List am_C), pr10_clear a w → ∃ nq, am_ev (am_mk kb10_clear (fm10_clear a w).2.2.1 (fm10_clear a w).2.2.2 w.length) [] nq (0, am_L0 a 2, [], w, 0, 0) = some ((fm10_clear a w).1, (fm10_clear a w).2.1) := by
  rintro a w ⟨s, rfl, rfl, hp⟩
  rw [fe10_clear s]
  exact am_lf_ev (re10_clear s hp)
theorem rl10_clear : ∀ (a : List am_V) (w : List am_C), pr10_clear a w → a.length ≤ 2 := by
  rintro a w ⟨s, rfl, rfl, hp⟩
  exact Nat.le_of_ble_eq_true rfl
theorem pa10_clear : ∀ a w, pr10_clear a w → ∃ q a' ci fs r, a = .inr (.inl q) :: a' ∧ w[q]? = some (.inr (ci, fs)) ∧ hn_cl[ci]? = some r ∧ r.1 = hn_R10 := by
  rintro a w ⟨s, rfl, rfl, hp⟩
  exact ⟨0, _, 10, _, _, rfl, rfl, rfl, rfl⟩
set_option maxRecDepth 100000 in
set_option maxHeartbeats 4000000 in
theorem km10_clear {l : Launch} {E : (Nat → Prop) → State → Prop} {D : va_G} {ou : Nat → Nat} {ca : Nat → ClassId} (hE : am_EC E) : hg_Met l E D ou ca hy10_clear prog_12_method_6_code 2 (some .int) 0 pr10_clear fm10_clear := by
  refine am_met (B := kb10_clear) (cuts := []) (nt := 5) (by decide +kernel) rfl rfl (hg_tys_ok ca) ?_ (by decide) rl10_clear ?_ rn10_clear
  · exact fun t ht => List.mem_cons_of_mem _ (hg_arr t ht)
  · intro a w hp ad p e R s m args below meth c hR X hEs hnm
    have hR1 : 0 ≤ R.frames ∧ 0 ≤ R.locals := by rw [hR]; exact ⟨Nat.le_refl _, Nat.le_refl _⟩
    refine ⟨kd10_clear_ok, fun index ci fi mode hq => kf10_ok X.2.2.2.2.1 (index, ci, fi, mode) (am_as_mem hq), fun index ci fs hq => (am_no hq).elim, fun x v hq => (am_no hq).elim, ?_, fun o t n f hq => (am_no hq).elim, rfl, rfl, by rw [hR]; exact Nat.le_refl _, by rw [hR]; exact Nat.le_refl _⟩
    intro pc sel n0 pre0 f0 hq
    exact (am_no hq).elim
noncomputable def ki10_at : List (Nat × Option (List Nat) × Nat × (List am_V → List am_C → Prop) × am_M) := []
noncomputable def kb10_at : am_B := (kd10_at, am_as kf10, hn_ty, fun _ => none, fun _ => none, am_as ki10_at, fun _ => none, 5, 2, (some .char))
noncomputable def fn10_at (s : hs) (p0 : Int32) : Int32 := Classical.choose (⟨_, rfl⟩ : ∃ z : Int32, z = (if (hm_length s) ≤ p0 then (0 : Int32) else ((hm_template s) (p0).toNatClampNeg)))
theorem fq10_at (s : hs) (p0 : Int32) : fn10_at s p0 = (if (hm_length s) ≤ p0 then (0 : Int32) else ((hm_template s) (p0).toNatClampNeg)) := Classical.choose_spec (⟨_, rfl⟩ : ∃ z : Int32, z = (if (hm_length s) ≤ p0 then (0 : Int32) else ((hm_template s) (p0).toNatClampNeg)))
def wp10_at (s : hs) (p0 : Int32) : Prop := (((hm_length s) ≤ p0 → True) ∧ (¬ (hm_length s) ≤ p0 → (am_inb p0 240 = true ∧ (am_fit .char (.inl ((hm_template s) (p0).toNatClampNeg)) = true))))
set_option maxRecDepth 100000 in
set_option maxHeartbeats 4000000 in
theorem re10_at (s : hs) (p0 : Int32) (hp : wp10_at s p0) : am_lf (am_mk kb10_at 0 0 22) [] (0, am_L0 [.inr (.inl 0), .inl p0] 2, [], (hm_w s), 0, 0) = some (some (.inl (fn10_at s p0)), (hm_w s)) := by
  unfold wp10_at at hp
  refine am_lf_eq ?_
  generalize am_lf (am_mk kb10_at 0 0 22) [] = kt
  refine am_if (c := (hm_length s) ≤ p0) (fun h1 => ?_) (fun h1 => ?_)
  · have e : fn10_at s p0 = (0 : Int32) := by
      rw [fq10_at]
      rw [if_pos h1]
    rw [e] <;> rfl
  · have q1 := hp.2 h1
    refine am_ci (c := am_inb p0 240 = true) q1.1 ?_
    refine am_ci (c := am_fit .char (.inl ((hm_template s) (p0).toNatClampNeg)) = true) q1.2 ?_
    have e : fn10_at s p0 = ((hm_template s) (p0).toNatClampNeg) := by
      rw [fq10_at]
      rw [if_neg h1]
    rw [e] <;> rfl
abbrev pr10_at : List am_V → List am_C → Prop := fun a w => ∃ (s : hs) (p0 : Int32), a = [.inr (.inl 0), .inl p0] ∧ w = (hm_w s) ∧ wp10_at s p0
noncomputable def fm10_at : am_M := fun a w => (fun (z : Int32) => (some (.inl z), (hm_w (hm_st w 0)), 0, 0)) (fn10_at (hm_st w 0) (am_i (am_an a 1)))
theorem fe10_at (s : hs) (p0 : Int32) : fm10_at [.inr (.inl 0), .inl p0] (hm_w s) = (some (.inl (fn10_at s p0)), (hm_w s), 0, 0) := rfl
set_option maxRecDepth 100000 in
set_option maxHeartbeats 4000000 in
theorem rn10_at : ∀ (a : List am_V) (w : List am_C), pr10_at a w → ∃ nq, am_ev (am_mk kb10_at (fm10_at a w).2.2.1 (fm10_at a w).2.2.2 w.length) [] nq (0, am_L0 a 2, [], w, 0, 0) = some ((fm10_at a w).1, (fm10_at a w).2.1) := by
  rintro a w ⟨s, p0, rfl, rfl, hp⟩
  rw [fe10_at s p0]
  exact am_lf_ev (re10_at s p0 hp)
theorem rl10_at : ∀ (a : List am_V) (w : List am_C), pr10_at a w → a.length ≤ 2 := by
  rintro a w ⟨s, p0, rfl, rfl, hp⟩
  exact Nat.le_of_ble_eq_true rfl
theorem pa10_at : ∀ a w, pr10_at a w → ∃ q a' ci fs r, a = .inr (.inl q) :: a' ∧ w[q]? = some (.inr (ci, fs)) ∧ hn_cl[ci]? = some r ∧ r.1 = hn_R10 := by
  rintro a w ⟨s, p0, rfl, rfl, hp⟩
  exact ⟨0, _, 10, _, _, rfl, rfl, rfl, rfl⟩
set_option maxRecDepth 100000 in
set_option maxHeartbeats 4000000 in
theorem km10_at {l : Launch} {E : (Nat → Prop) → State → Prop} {D : va_G} {ou : Nat → Nat} {ca : Nat → ClassId} (hE : am_EC E) : hg_Met l E D ou ca hy10_at prog_12_method_7_code 2 (some .char) 0 pr10_at fm10_at := by
  refine am_met (B := kb10_at) (cuts := []) (nt := 5) (by decide +kernel) rfl rfl (hg_tys_ok ca) ?_ (by decide) rl10_at ?_ rn10_at
  · exact fun t ht => List.mem_cons_of_mem _ (hg_arr t ht)
  · intro a w hp ad p e R s m args below meth c hR X hEs hnm
    have hR1 : 0 ≤ R.frames ∧ 0 ≤ R.locals := by rw [hR]; exact ⟨Nat.le_refl _, Nat.le_refl _⟩
    refine ⟨kd10_at_ok, fun index ci fi mode hq => kf10_ok X.2.2.2.2.1 (index, ci, fi, mode) (am_as_mem hq), fun index ci fs hq => (am_no hq).elim, fun x v hq => (am_no hq).elim, ?_, fun o t n f hq => (am_no hq).elim, rfl, rfl, by rw [hR]; exact Nat.le_refl _, by rw [hR]; exact Nat.le_refl _⟩
    intro pc sel n0 pre0 f0 hq
    exact (am_no hq).elim
noncomputable def ki10_isVariable : List (Nat × Option (List Nat) × Nat × (List am_V → List am_C → Prop) × am_M) := []
noncomputable def kb10_isVariable : am_B := (kd10_isVariable, am_as kf10, hn_ty, fun _ => none, fun _ => none, am_as ki10_isVariable, fun _ => none, 5, 1, (some .boolean))
noncomputable def fn10_isVariable (p0 : Int32) : Int32 := Classical.choose (⟨_, rfl⟩ : ∃ z : Int32, z = (if p0 < (97 : Int32) then (0 : Int32) else (if (104 : Int32) < p0 then (0 : Int32) else (1 : Int32))))
theorem fq10_isVariable (p0 : Int32) : fn10_isVariable p0 = (if p0 < (97 : Int32) then (0 : Int32) else (if (104 : Int32) < p0 then (0 : Int32) else (1 : Int32))) := Classical.choose_spec (⟨_, rfl⟩ : ∃ z : Int32, z = (if p0 < (97 : Int32) then (0 : Int32) else (if (104 : Int32) < p0 then (0 : Int32) else (1 : Int32))))
def wp10_isVariable (p0 : Int32) : Prop := True
set_option maxRecDepth 100000 in
set_option maxHeartbeats 4000000 in
theorem re10_isVariable (p0 : Int32) (hp : wp10_isVariable p0) : am_lf (am_mk kb10_isVariable 0 0 0) [] (0, am_L0 [.inl p0] 1, [], [], 0, 0) = some (some (.inl (fn10_isVariable p0)), []) := by
  unfold wp10_isVariable at hp
  refine am_lf_eq ?_
  generalize am_lf (am_mk kb10_isVariable 0 0 0) [] = kt
  refine am_if (c := p0 < (97 : Int32)) (fun h1 => ?_) (fun h1 => ?_)
  · have e : fn10_isVariable p0 = (0 : Int32) := by
      rw [fq10_isVariable]
      rw [if_pos h1]
    rw [e] <;> rfl
  · refine am_if (c := (104 : Int32) < p0) (fun h2 => ?_) (fun h2 => ?_)
    · have e : fn10_isVariable p0 = (0 : Int32) := by
        rw [fq10_isVariable]
        rw [if_neg h1, if_pos h2]
      rw [e] <;> rfl
    · have e : fn10_isVariable p0 = (1 : Int32) := by
        rw [fq10_isVariable]
        rw [if_neg h1, if_neg h2]
      rw [e] <;> rfl
abbrev pr10_isVariable : List am_V → List am_C → Prop := fun a w => ∃ (p0 : Int32), a = [.inl p0] ∧ w = [] ∧ wp10_isVariable p0
noncomputable def fm10_isVariable : am_M := fun a w => (fun (z : Int32) => (some (.inl z), [], 0, 0)) (fn10_isVariable (am_i (am_an a 0)))
theorem fe10_isVariable (p0 : Int32) : fm10_isVariable [.inl p0] [] = (some (.inl (fn10_isVariable p0)), [], 0, 0) := rfl
set_option maxRecDepth 100000 in
set_option maxHeartbeats 4000000 in
theorem rn10_isVariable : ∀ (a : List am_V) (w : List am_C), pr10_isVariable a w → ∃ nq, am_ev (am_mk kb10_isVariable (fm10_isVariable a w).2.2.1 (fm10_isVariable a w).2.2.2 w.length) [] nq (0, am_L0 a 1, [], w, 0, 0) = some ((fm10_isVariable a w).1, (fm10_isVariable a w).2.1) := by
  rintro a w ⟨p0, rfl, rfl, hp⟩
  rw [fe10_isVariable p0]
  exact am_lf_ev (re10_isVariable p0 hp)
theorem rl10_isVariable : ∀ (a : List am_V) (w : List am_C), pr10_isVariable a w → a.length ≤ 1 := by
  rintro a w ⟨p0, rfl, rfl, hp⟩
  exact Nat.le_of_ble_eq_true rfl
set_option maxRecDepth 100000 in
set_option maxHeartbeats 4000000 in
theorem km10_isVariable {l : Launch} {E : (Nat → Prop) → State → Prop} {D : va_G} {ou : Nat → Nat} {ca : Nat → ClassId} (hE : am_EC E) : hg_Met l E D ou ca hy10_isVariable prog_12_method_8_code 1 (some .boolean) 0 pr10_isVariable fm10_isVariable := by
  refine am_met (B := kb10_isVariable) (cuts := []) (nt := 5) (by decide +kernel) rfl rfl (hg_tys_ok ca) ?_ (by decide) rl10_isVariable ?_ rn10_isVariable
  · exact fun t ht => List.mem_cons_of_mem _ (hg_arr t ht)
  · intro a w hp ad p e R s m args below meth c hR X hEs hnm
    have hR1 : 0 ≤ R.frames ∧ 0 ≤ R.locals := by rw [hR]; exact ⟨Nat.le_refl _, Nat.le_refl _⟩
    refine ⟨kd10_isVariable_ok, fun index ci fi mode hq => kf10_ok X.2.2.2.2.1 (index, ci, fi, mode) (am_as_mem hq), fun index ci fs hq => (am_no hq).elim, fun x v hq => (am_no hq).elim, ?_, fun o t n f hq => (am_no hq).elim, rfl, rfl, by rw [hR]; exact Nat.le_refl _, by rw [hR]; exact Nat.le_refl _⟩
    intro pc sel n0 pre0 f0 hq
    exact (am_no hq).elim
noncomputable def ki10_push : List (Nat × Option (List Nat) × Nat × (List am_V → List am_C → Prop) × am_M) := []
noncomputable def kb10_push : am_B := (kd10_push, am_as kf10, hn_ty, fun _ => none, fun _ => none, am_as ki10_push, fun _ => none, 5, 5, (some .int))
noncomputable def fn10_push_c30 (s : hs) (v3 : Int32) (v4 : Int32) : Int32 × hs := ((v3 + v4), (hu_symbols s ((hm_symbols s) + (1 : Int32))))
def wp10_push_c30 (s : hs) (v3 : Int32) (v4 : Int32) : Prop := True
set_option maxRecDepth 100000 in
set_option maxHeartbeats 4000000 in
theorem rc10_push_30 (s : hs) (v3 : Int32) (v4 : Int32) (j1 : Option am_V) (j2 : Option am_V) (g1 : am_loO 22 j1 = true) (g2 : am_loO 22 j2 = true) (hp : wp10_push_c30 s v3 v4) : am_lf (am_mk kb10_push 0 0 22) [10, 20, 30] (30, [some (.inr (.inl 0)), j1, j2, some (.inl v3), some (.inl v4)], [], (hm_w s), 0, 0) = some (some (.inl ((fn10_push_c30 s v3 v4).1)), (hm_w ((fn10_push_c30 s v3 v4).2))) := by
  unfold wp10_push_c30 at hp
  refine am_lf_eq ?_
  generalize am_lf (am_mk kb10_push 0 0 22) [10, 20, 30] = kt
  refine am_sp (w' := (hm_w (hu_symbols s ((hm_symbols s) + (1 : Int32))))) (kp_R_0_symbols s ((hm_symbols s) + (1 : Int32))) ?_
  have e : fn10_push_c30 s v3 v4 = ((v3 + v4), (hu_symbols s ((hm_symbols s) + (1 : Int32)))) := by
    rw [fn10_push_c30]
  rw [e] <;> rfl
noncomputable def fn10_push_c20 (s : hs) (v3 : Int32) (v4 : Int32) : Int32 × hs := (fn10_push_c30 (ha_place s (((hm_symbols s)).toNatClampNeg) v3) v3 v4)
def wp10_push_c20 (s : hs) (v3 : Int32) (v4 : Int32) : Prop := (am_inb (hm_symbols s) 240 = true ∧ (wp10_push_c30 (ha_place s (((hm_symbols s)).toNatClampNeg) v3) v3 v4))
set_option maxRecDepth 100000 in
set_option maxHeartbeats 4000000 in
theorem rc10_push_20 (s : hs) (v3 : Int32) (v4 : Int32) (j1 : Option am_V) (j2 : Option am_V) (g1 : am_loO 22 j1 = true) (g2 : am_loO 22 j2 = true) (hp : wp10_push_c20 s v3 v4) : am_lf (am_mk kb10_push 0 0 22) [10, 20, 30] (20, [some (.inr (.inl 0)), j1, j2, some (.inl v3), some (.inl v4)], [], (hm_w s), 0, 0) = some (some (.inl ((fn10_push_c20 s v3 v4).1)), (hm_w ((fn10_push_c20 s v3 v4).2))) := by
  unfold wp10_push_c20 at hp
  have i30 := @rc10_push_30
  refine am_lf_eq ?_
  generalize am_lf (am_mk kb10_push 0 0 22) [10, 20, 30] = kt at i30 ⊢
  refine am_ci (c := am_inb (hm_symbols s) 240 = true) hp.1 ?_
  refine am_sp (w' := (hm_w (ha_place s (((hm_symbols s)).toNatClampNeg) v3))) (kp_R_0_place s (((hm_symbols s)).toNatClampNeg) v3) ?_
  have e : fn10_push_c20 s v3 v4 = fn10_push_c30 (ha_place s (((hm_symbols s)).toNatClampNeg) v3) v3 v4 := by
    rw [fn10_push_c20]
  rw [e]
  exact i30 (ha_place s (((hm_symbols s)).toNatClampNeg) v3) v3 v4 _ _ g1 g2 hp.2
noncomputable def fn10_push_c10 (s : hs) (v2 : Int32) (v3 : Int32) (v4 : Int32) : Int32 × hs := (fn10_push_c20 (ha_sign s (((hm_symbols s)).toNatClampNeg) (vp_nar .char v2)) v3 v4)
def wp10_push_c10 (s : hs) (v2 : Int32) (v3 : Int32) (v4 : Int32) : Prop := (am_inb (hm_symbols s) 240 = true ∧ (wp10_push_c20 (ha_sign s (((hm_symbols s)).toNatClampNeg) (vp_nar .char v2)) v3 v4))
set_option maxRecDepth 100000 in
set_option maxHeartbeats 4000000 in
theorem rc10_push_10 (s : hs) (v2 : Int32) (v3 : Int32) (v4 : Int32) (j1 : Option am_V) (g1 : am_loO 22 j1 = true) (hp : wp10_push_c10 s v2 v3 v4) : am_lf (am_mk kb10_push 0 0 22) [10, 20, 30] (10, [some (.inr (.inl 0)), j1, some (.inl v2), some (.inl v3), some (.inl v4)], [], (hm_w s), 0, 0) = some (some (.inl ((fn10_push_c10 s v2 v3 v4).1)), (hm_w ((fn10_push_c10 s v2 v3 v4).2))) := by
  unfold wp10_push_c10 at hp
  have i20 := @rc10_push_20
  refine am_lf_eq ?_
  generalize am_lf (am_mk kb10_push 0 0 22) [10, 20, 30] = kt at i20 ⊢
  refine am_ci (c := am_inb (hm_symbols s) 240 = true) hp.1 ?_
  refine am_sp (w' := (hm_w (ha_sign s (((hm_symbols s)).toNatClampNeg) (vp_nar .char v2)))) (kp_R_0_sign s (((hm_symbols s)).toNatClampNeg) (vp_nar .char v2)) ?_
  have e : fn10_push_c10 s v2 v3 v4 = fn10_push_c20 (ha_sign s (((hm_symbols s)).toNatClampNeg) (vp_nar .char v2)) v3 v4 := by
    rw [fn10_push_c10]
  rw [e]
  exact i20 (ha_sign s (((hm_symbols s)).toNatClampNeg) (vp_nar .char v2)) v3 v4 _ _ g1 rfl hp.2
noncomputable def fn10_push (s : hs) (p0 : Int32) (p1 : Int32) (p2 : Int32) (p3 : Int32) : Int32 × hs := Classical.choose (⟨_, rfl⟩ : ∃ z : Int32 × hs, z = (fn10_push_c10 (ha_sort s (((hm_symbols s)).toNatClampNeg) p0) p1 p2 p3))
theorem fq10_push (s : hs) (p0 : Int32) (p1 : Int32) (p2 : Int32) (p3 : Int32) : fn10_push s p0 p1 p2 p3 = (fn10_push_c10 (ha_sort s (((hm_symbols s)).toNatClampNeg) p0) p1 p2 p3) := Classical.choose_spec (⟨_, rfl⟩ : ∃ z : Int32 × hs, z = (fn10_push_c10 (ha_sort s (((hm_symbols s)).toNatClampNeg) p0) p1 p2 p3))
def wp10_push (s : hs) (p0 : Int32) (p1 : Int32) (p2 : Int32) (p3 : Int32) : Prop := (am_inb (hm_symbols s) 240 = true ∧ (wp10_push_c10 (ha_sort s (((hm_symbols s)).toNatClampNeg) p0) p1 p2 p3))
set_option maxRecDepth 100000 in
set_option maxHeartbeats 4000000 in
theorem re10_push (s : hs) (p0 : Int32) (p1 : Int32) (p2 : Int32) (p3 : Int32) (hp : wp10_push s p0 p1 p2 p3) : am_lf (am_mk kb10_push 0 0 22) [10, 20, 30] (0, am_L0 [.inr (.inl 0), .inl p0, .inl p1, .inl p2, .inl p3] 5, [], (hm_w s), 0, 0) = some (some (.inl ((fn10_push s p0 p1 p2 p3).1)), (hm_w ((fn10_push s p0 p1 p2 p3).2))) := by
  unfold wp10_push at hp
  have i10 := @rc10_push_10
  refine am_lf_eq ?_
  generalize am_lf (am_mk kb10_push 0 0 22) [10, 20, 30] = kt at i10 ⊢
  refine am_ci (c := am_inb (hm_symbols s) 240 = true) hp.1 ?_
  refine am_sp (w' := (hm_w (ha_sort s (((hm_symbols s)).toNatClampNeg) p0))) (kp_R_0_sort s (((hm_symbols s)).toNatClampNeg) p0) ?_
  have e : fn10_push s p0 p1 p2 p3 = fn10_push_c10 (ha_sort s (((hm_symbols s)).toNatClampNeg) p0) p1 p2 p3 := by
    rw [fq10_push]
  rw [e]
  exact i10 (ha_sort s (((hm_symbols s)).toNatClampNeg) p0) p1 p2 p3 _ rfl hp.2
abbrev pr10_push : List am_V → List am_C → Prop := fun a w => ∃ (s : hs) (p0 : Int32) (p1 : Int32) (p2 : Int32) (p3 : Int32), a = [.inr (.inl 0), .inl p0, .inl p1, .inl p2, .inl p3] ∧ w = (hm_w s) ∧ wp10_push s p0 p1 p2 p3
noncomputable def fm10_push : am_M := fun a w => (fun (z : Int32 × hs) => (some (.inl (z.1)), (hm_w (z.2)), 0, 0)) (fn10_push (hm_st w 0) (am_i (am_an a 1)) (am_i (am_an a 2)) (am_i (am_an a 3)) (am_i (am_an a 4)))
theorem fe10_push (s : hs) (p0 : Int32) (p1 : Int32) (p2 : Int32) (p3 : Int32) : fm10_push [.inr (.inl 0), .inl p0, .inl p1, .inl p2, .inl p3] (hm_w s) = (some (.inl ((fn10_push s p0 p1 p2 p3).1)), (hm_w ((fn10_push s p0 p1 p2 p3).2)), 0, 0) := rfl
set_option maxRecDepth 100000 in
set_option maxHeartbeats 4000000 in
theorem rn10_push : ∀ (a : List am_V) (w : List am_C), pr10_push a w → ∃ nq, am_ev (am_mk kb10_push (fm10_push a w).2.2.1 (fm10_push a w).2.2.2 w.length) [10, 20, 30] nq (0, am_L0 a 5, [], w, 0, 0) = some ((fm10_push a w).1, (fm10_push a w).2.1) := by
  rintro a w ⟨s, p0, p1, p2, p3, rfl, rfl, hp⟩
  rw [fe10_push s p0 p1 p2 p3]
  exact am_lf_ev (re10_push s p0 p1 p2 p3 hp)
theorem rl10_push : ∀ (a : List am_V) (w : List am_C), pr10_push a w → a.length ≤ 5 := by
  rintro a w ⟨s, p0, p1, p2, p3, rfl, rfl, hp⟩
  exact Nat.le_of_ble_eq_true rfl
theorem pa10_push : ∀ a w, pr10_push a w → ∃ q a' ci fs r, a = .inr (.inl q) :: a' ∧ w[q]? = some (.inr (ci, fs)) ∧ hn_cl[ci]? = some r ∧ r.1 = hn_R10 := by
  rintro a w ⟨s, p0, p1, p2, p3, rfl, rfl, hp⟩
  exact ⟨0, _, 10, _, _, rfl, rfl, rfl, rfl⟩
set_option maxRecDepth 100000 in
set_option maxHeartbeats 4000000 in
theorem km10_push {l : Launch} {E : (Nat → Prop) → State → Prop} {D : va_G} {ou : Nat → Nat} {ca : Nat → ClassId} (hE : am_EC E) : hg_Met l E D ou ca hy10_push prog_12_method_9_code 5 (some .int) 0 pr10_push fm10_push := by
  refine am_met (B := kb10_push) (cuts := [10, 20, 30]) (nt := 5) (by decide +kernel) rfl rfl (hg_tys_ok ca) ?_ (by decide) rl10_push ?_ rn10_push
  · exact fun t ht => List.mem_cons_of_mem _ (hg_arr t ht)
  · intro a w hp ad p e R s m args below meth c hR X hEs hnm
    have hR1 : 0 ≤ R.frames ∧ 0 ≤ R.locals := by rw [hR]; exact ⟨Nat.le_refl _, Nat.le_refl _⟩
    refine ⟨kd10_push_ok, fun index ci fi mode hq => kf10_ok X.2.2.2.2.1 (index, ci, fi, mode) (am_as_mem hq), fun index ci fs hq => (am_no hq).elim, fun x v hq => (am_no hq).elim, ?_, fun o t n f hq => (am_no hq).elim, rfl, rfl, by rw [hR]; exact Nat.le_refl _, by rw [hR]; exact Nat.le_refl _⟩
    intro pc sel n0 pre0 f0 hq
    exact (am_no hq).elim
