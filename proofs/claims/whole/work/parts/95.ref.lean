noncomputable def ki10_written : List (Nat × Option (List Nat) × Nat × (List am_V → List am_C → Prop) × am_M) := []
noncomputable def kb10_written : am_B := (kd10_written, am_as kf10, hn_ty, fun _ => none, fun _ => none, am_as ki10_written, fun _ => none, 5, 1, (some .int))
noncomputable def fn10_written (s : hs) : Int32 × hs := Classical.choose (⟨_, rfl⟩ : ∃ z : Int32 × hs, z = ((hm_size (hu_thrown s (0 : Int32))), (hu_thrown s (0 : Int32))))
theorem fq10_written (s : hs) : fn10_written s = ((hm_size (hu_thrown s (0 : Int32))), (hu_thrown s (0 : Int32))) := Classical.choose_spec (⟨_, rfl⟩ : ∃ z : Int32 × hs, z = ((hm_size (hu_thrown s (0 : Int32))), (hu_thrown s (0 : Int32))))
def wp10_written (s : hs) : Prop := True
set_option maxRecDepth 100000 in
set_option maxHeartbeats 4000000 in
theorem re10_written (s : hs) (hp : wp10_written s) : am_lf (am_mk kb10_written 0 0 22) [] (0, am_L0 [.inr (.inl 0)] 1, [], (hm_w s), 0, 0) = some (some (.inl ((fn10_written s).1)), (hm_w ((fn10_written s).2))) := by
  unfold wp10_written at hp
  refine am_lf_eq ?_
  generalize am_lf (am_mk kb10_written 0 0 22) [] = kt
  refine am_sp (w' := (hm_w (hu_thrown s (0 : Int32)))) (kp_R_0_thrown s (0 : Int32)) ?_
  have e : fn10_written s = ((hm_size (hu_thrown s (0 : Int32))), (hu_thrown s (0 : Int32))) := by
    rw [fq10_written]
  rw [e] <;> rfl
abbrev pr10_written : List am_V → List am_C → Prop := fun a w => ∃ (s : hs), a = [.inr (.inl 0)] ∧ w = (hm_w s) ∧ wp10_written s
noncomputable def fm10_written : am_M := fun a w => (fun (z : Int32 × hs) => (some (.inl (z.1)), (hm_w (z.2)), 0, 0)) (fn10_written (hm_st w 0))
theorem fe10_written (s : hs) : fm10_written [.inr (.inl 0)] (hm_w s) = (some (.inl ((fn10_written s).1)), (hm_w ((fn10_written s).2)), 0, 0) := rfl
set_option maxRecDepth 100000 in
set_option maxHeartbeats 4000000 in
theorem rn10_written : ∀ (a : List am_V) (w : List am_C), pr10_written a w → ∃ nq, am_ev (am_mk kb10_written (fm10_written a w).2.2.1 (fm10_written a w).2.2.2 w.length) [] nq (0, am_L0 a 1, [], w, 0, 0) = some ((fm10_written a w).1, (fm10_written a w).2.1) := by
  rintro a w ⟨s, rfl, rfl, hp⟩
  rw [fe10_written s]
  exact am_lf_ev (re10_written s hp)
theorem rl10_written : ∀ (a : List am_V) (w : List am_C), pr10_written a w → a.length ≤ 1 := by
  rintro a w ⟨s, rfl, rfl, hp⟩
  exact Nat.le_of_ble_eq_true rfl
theorem pa10_written : ∀ a w, pr10_written a w → ∃ q a' ci fs r, a = .inr (.inl q) :: a' ∧ w[q]? = some (.inr (ci, fs)) ∧ hn_cl[ci]? = some r ∧ r.1 = hn_R10 := by
  rintro a w ⟨s, rfl, rfl, hp⟩
  exact ⟨0, _, 10, _, _, rfl, rfl, rfl, rfl⟩
set_option maxRecDepth 100000 in
set_option maxHeartbeats 4000000 in
theorem km10_written {l : Launch} {E : (Nat → Prop) → State → Prop} {D : va_G} {ou : Nat → Nat} {ca : Nat → ClassId} (hE : am_EC E) : hg_Met l E D ou ca hy10_written prog_12_method_74_code 1 (some .int) 0 pr10_written fm10_written := by
  refine am_met (B := kb10_written) (cuts := []) (nt := 5) (by decide +kernel) rfl rfl (hg_tys_ok ca) ?_ (by decide) rl10_written ?_ rn10_written
  · exact fun t ht => List.mem_cons_of_mem _ (hg_arr t ht)
  · intro a w hp ad p e R s m args below meth c hR X hEs hnm
    have hR1 : 0 ≤ R.frames ∧ 0 ≤ R.locals := by rw [hR]; exact ⟨Nat.le_refl _, Nat.le_refl _⟩
    refine ⟨kd10_written_ok, fun index ci fi mode hq => kf10_ok X.2.2.2.2.1 (index, ci, fi, mode) (am_as_mem hq), fun index ci fs hq => (am_no hq).elim, fun x v hq => (am_no hq).elim, ?_, fun o t n f hq => (am_no hq).elim, rfl, rfl, by rw [hR]; exact Nat.le_refl _, by rw [hR]; exact Nat.le_refl _⟩
    intro pc sel n0 pre0 f0 hq
    exact (am_no hq).elim
noncomputable def ki10_letter : List (Nat × Option (List Nat) × Nat × (List am_V → List am_C → Prop) × am_M) := []
noncomputable def kb10_letter : am_B := (kd10_letter, am_as kf10, hn_ty, fun _ => none, fun _ => none, am_as ki10_letter, fun _ => none, 5, 2, (some .char))
noncomputable def fn10_letter (s : hs) (p0 : Int32) : Int32 × hs := Classical.choose (⟨_, rfl⟩ : ∃ z : Int32 × hs, z = (if p0 < 0 then ((0 : Int32), (hu_thrown s (0 : Int32))) else (if (hm_size (hu_thrown s (0 : Int32))) ≤ p0 then ((0 : Int32), (hu_thrown s (0 : Int32))) else (((hm_out (hu_thrown s (0 : Int32))) (p0).toNatClampNeg), (hu_thrown s (0 : Int32))))))
theorem fq10_letter (s : hs) (p0 : Int32) : fn10_letter s p0 = (if p0 < 0 then ((0 : Int32), (hu_thrown s (0 : Int32))) else (if (hm_size (hu_thrown s (0 : Int32))) ≤ p0 then ((0 : Int32), (hu_thrown s (0 : Int32))) else (((hm_out (hu_thrown s (0 : Int32))) (p0).toNatClampNeg), (hu_thrown s (0 : Int32))))) := Classical.choose_spec (⟨_, rfl⟩ : ∃ z : Int32 × hs, z = (if p0 < 0 then ((0 : Int32), (hu_thrown s (0 : Int32))) else (if (hm_size (hu_thrown s (0 : Int32))) ≤ p0 then ((0 : Int32), (hu_thrown s (0 : Int32))) else (((hm_out (hu_thrown s (0 : Int32))) (p0).toNatClampNeg), (hu_thrown s (0 : Int32))))))
def wp10_letter (s : hs) (p0 : Int32) : Prop := ((p0 < 0 → True) ∧ (¬ p0 < 0 → (((hm_size (hu_thrown s (0 : Int32))) ≤ p0 → True) ∧ (¬ (hm_size (hu_thrown s (0 : Int32))) ≤ p0 → (am_inb p0 1000 = true ∧ (am_fit .char (.inl ((hm_out (hu_thrown s (0 : Int32))) (p0).toNatClampNeg)) = true))))))
set_option maxRecDepth 100000 in
set_option maxHeartbeats 4000000 in
theorem re10_letter (s : hs) (p0 : Int32) (hp : wp10_letter s p0) : am_lf (am_mk kb10_letter 0 0 22) [] (0, am_L0 [.inr (.inl 0), .inl p0] 2, [], (hm_w s), 0, 0) = some (some (.inl ((fn10_letter s p0).1)), (hm_w ((fn10_letter s p0).2))) := by
  unfold wp10_letter at hp
  refine am_lf_eq ?_
  generalize am_lf (am_mk kb10_letter 0 0 22) [] = kt
  refine am_sp (w' := (hm_w (hu_thrown s (0 : Int32)))) (kp_R_0_thrown s (0 : Int32)) ?_
  refine am_if (c := p0 < 0) (fun h1 => ?_) (fun h1 => ?_)
  · have e : fn10_letter s p0 = ((0 : Int32), (hu_thrown s (0 : Int32))) := by
      rw [fq10_letter]
      rw [if_pos h1]
    rw [e] <;> rfl
  · have q1 := hp.2 h1
    refine am_if (c := (hm_size (hu_thrown s (0 : Int32))) ≤ p0) (fun h2 => ?_) (fun h2 => ?_)
    · have e : fn10_letter s p0 = ((0 : Int32), (hu_thrown s (0 : Int32))) := by
        rw [fq10_letter]
        rw [if_neg h1, if_pos h2]
      rw [e] <;> rfl
    · have q2 := q1.2 h2
      refine am_ci (c := am_inb p0 1000 = true) q2.1 ?_
      refine am_ci (c := am_fit .char (.inl ((hm_out (hu_thrown s (0 : Int32))) (p0).toNatClampNeg)) = true) q2.2 ?_
      have e : fn10_letter s p0 = (((hm_out (hu_thrown s (0 : Int32))) (p0).toNatClampNeg), (hu_thrown s (0 : Int32))) := by
        rw [fq10_letter]
        rw [if_neg h1, if_neg h2]
      rw [e] <;> rfl
abbrev pr10_letter : List am_V → List am_C → Prop := fun a w => ∃ (s : hs) (p0 : Int32), a = [.inr (.inl 0), .inl p0] ∧ w = (hm_w s) ∧ wp10_letter s p0
noncomputable def fm10_letter : am_M := fun a w => (fun (z : Int32 × hs) => (some (.inl (z.1)), (hm_w (z.2)), 0, 0)) (fn10_letter (hm_st w 0) (am_i (am_an a 1)))
theorem fe10_letter (s : hs) (p0 : Int32) : fm10_letter [.inr (.inl 0), .inl p0] (hm_w s) = (some (.inl ((fn10_letter s p0).1)), (hm_w ((fn10_letter s p0).2)), 0, 0) := rfl
set_option maxRecDepth 100000 in
set_option maxHeartbeats 4000000 in
theorem rn10_letter : ∀ (a : List am_V) (w : List am_C), pr10_letter a w → ∃ nq, am_ev (am_mk kb10_letter (fm10_letter a w).2.2.1 (fm10_letter a w).2.2.2 w.length) [] nq (0, am_L0 a 2, [], w, 0, 0) = some ((fm10_letter a w).1, (fm10_letter a w).2.1) := by
  rintro a w ⟨s, p0, rfl, rfl, hp⟩
  rw [fe10_letter s p0]
  exact am_lf_ev (re10_letter s p0 hp)
theorem rl10_letter : ∀ (a : List am_V) (w : List am_C), pr10_letter a w → a.length ≤ 2 := by
  rintro a w ⟨s, p0, rfl, rfl, hp⟩
  exact Nat.le_of_ble_eq_true rfl
theorem pa10_letter : ∀ a w, pr10_letter a w → ∃ q a' ci fs r, a = .inr (.inl q) :: a' ∧ w[q]? = some (.inr (ci, fs)) ∧ hn_cl[ci]? = some r ∧ r.1 = hn_R10 := by
  rintro a w ⟨s, p0, rfl, rfl, hp⟩
  exact ⟨0, _, 10, _, _, rfl, rfl, rfl, rfl⟩
set_option maxRecDepth 100000 in
set_option maxHeartbeats 4000000 in
theorem km10_letter {l : Launch} {E : (Nat → Prop) → State → Prop} {D : va_G} {ou : Nat → Nat} {ca : Nat → ClassId} (hE : am_EC E) : hg_Met l E D ou ca hy10_letter prog_12_method_75_code 2 (some .char) 0 pr10_letter fm10_letter := by
  refine am_met (B := kb10_letter) (cuts := []) (nt := 5) (by decide +kernel) rfl rfl (hg_tys_ok ca) ?_ (by decide) rl10_letter ?_ rn10_letter
  · exact fun t ht => List.mem_cons_of_mem _ (hg_arr t ht)
  · intro a w hp ad p e R s m args below meth c hR X hEs hnm
    have hR1 : 0 ≤ R.frames ∧ 0 ≤ R.locals := by rw [hR]; exact ⟨Nat.le_refl _, Nat.le_refl _⟩
    refine ⟨kd10_letter_ok, fun index ci fi mode hq => kf10_ok X.2.2.2.2.1 (index, ci, fi, mode) (am_as_mem hq), fun index ci fs hq => (am_no hq).elim, fun x v hq => (am_no hq).elim, ?_, fun o t n f hq => (am_no hq).elim, rfl, rfl, by rw [hR]; exact Nat.le_refl _, by rw [hR]; exact Nat.le_refl _⟩
    intro pc sel n0 pre0 f0 hq
    exact (am_no hq).elim
